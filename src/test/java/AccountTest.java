/** Promises 10 and 11: balance and coins. */
public final class AccountTest {
    private static final Check CHECK = new Check();
    private static final int[] ODD = {-1, 4, Integer.MIN_VALUE, Integer.MAX_VALUE};

    public static void main(String[] args) {
        ordinary();
        noSuchAccount();
        CHECK.finish();
    }

    private static BlindMint used() {
        BlindMint mint = new BlindMint();
        mint.withdraw(0, 2, 1, 0);
        mint.withdraw(0, 1, 2, 0);
        mint.withdraw(1, 0, 3, 0);
        mint.spend(0, 0, 1, 1);
        mint.deposit(0, 3);
        return mint;
    }

    private static void ordinary() {
        BlindMint mint = used();
        CHECK.refused("withdraw by a cheat", Check.STATE, () -> mint.withdraw(2, 2, 4, 63));
        int[] balances = {75, 99, 99, 120};
        int[] coins = {2, 1, 0, 0};
        for (int a = 0; a < 4; a++) {
            CHECK.due("balance(" + a + ")", mint.balance(a), balances[a]);
            CHECK.due("coins(" + a + ")", mint.coins(a), coins[a]);
        }
        for (int i = 1; i <= 8; i++) {
            mint.withdraw(3, 0, i, 0);
            CHECK.due("balance(3) with " + i + " coins", mint.balance(3), 120 - i);
            CHECK.due("coins(3) with " + i + " coins", mint.coins(3), i);
        }
    }

    private static void noSuchAccount() {
        for (int odd : ODD) {
            CHECK.refusedUnchanged("balance(" + odd + ")", Check.ARGUMENT, AccountTest::used,
                    mint -> mint.balance(odd));
            CHECK.due("coins(" + odd + ")", used().coins(odd), -1);
        }
    }
}
