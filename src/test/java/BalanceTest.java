/** Promise 10: balance. */
public final class BalanceTest {
    private static final Check CHECK = new Check();

    public static void main(String[] args) {
        CHECK.each(
                BalanceTest::whatAnAccountHas,
                BalanceTest::nothingAndTheMost,
                BalanceTest::noSuchAccount);
        CHECK.finish();
    }

    private static BlindMint used() {
        BlindMint mint = new BlindMint();
        mint.withdraw(0, 2, 1, 0);
        mint.withdraw(0, 1, 2, 0);
        mint.withdraw(1, 0, 3, 0);
        mint.spend(0, 0, 1, 1);
        mint.deposit(0, 3);
        Check.outcome(() -> mint.withdraw(2, 2, 4, 63));
        return mint;
    }

    /** "What an account has." */
    private static void whatAnAccountHas() {
        int[] due = {75, 99, 99, 120};
        for (int a = 0; a < 4; a++) {
            CHECK.due("balance(" + a + ")", used().balance(a), due[a]);
        }
        CHECK.due("what balance changes", Check.changes(BalanceTest::used, mint -> mint.balance(0)).size(), 0);
    }

    /** The same, of an account that gave all to another. */
    private static void nothingAndTheMost() {
        BlindMint mint = new BlindMint();
        for (int a = 0; a < 3; a++) {
            for (int i = 0; i < 5; i++) {
                mint.withdraw(a, 2, 10 * a + i, 0);
                mint.deposit(mint.spend(a, i, 1, 1), 3);
            }
            CHECK.due("balance of an account that gave all", mint.balance(a), 0);
        }
        CHECK.due("balance of the account that has all", mint.balance(3), 400);
    }

    /** "IllegalArgumentException, when there is none." */
    private static void noSuchAccount() {
        for (int odd : Check.NO_ACCOUNTS) {
            CHECK.refusedUnchanged("balance(" + odd + ")", Check.ARGUMENT, BalanceTest::used,
                    mint -> mint.balance(odd));
        }
    }
}
