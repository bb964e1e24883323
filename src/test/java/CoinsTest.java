/** Promise 11: coins. */
public final class CoinsTest {
    private static final Check CHECK = new Check();

    public static void main(String[] args) {
        CHECK.each(
                CoinsTest::fromNoneToEight,
                CoinsTest::spentCoinsCount,
                CoinsTest::refusedCoinsDoNotCount,
                CoinsTest::noSuchAccount);
        CHECK.finish();
    }

    /** "How many coins a wallet has": from the empty wallet to the full one. */
    private static void fromNoneToEight() {
        for (int account = 0; account < 4; account++) {
            BlindMint mint = new BlindMint();
            for (int i = 0; i < 8; i++) {
                CHECK.due("coins(" + account + ") before coin " + i, mint.coins(account), i);
                mint.withdraw(account, i % 2, i, 0);
            }
            CHECK.due("coins(" + account + ") of a full wallet", mint.coins(account), 8);
            for (int other = 0; other < 4; other++) {
                CHECK.due("coins(" + other + ") then", mint.coins(other), other == account ? 8 : 0);
            }
        }
    }

    /** The same: a coin that was spent and deposited is still in its wallet, and in no other. */
    private static void spentCoinsCount() {
        BlindMint mint = new BlindMint();
        mint.withdraw(1, 0, 5, 0);
        mint.spend(1, 0, 1, 1);
        mint.deposit(0, 2);
        CHECK.due("coins(1) after its coin was spent", mint.coins(1), 1);
        CHECK.due("coins(2) after it got that", mint.coins(2), 0);
    }

    /** The same: a coin that was refused is none. */
    private static void refusedCoinsDoNotCount() {
        BlindMint mint = new BlindMint();
        Check.outcome(() -> mint.withdraw(0, 0, 5, 63));
        CHECK.due("coins(0) after a cheat was found", mint.coins(0), 0);
        for (int i = 0; i < 9; i++) {
            int seed = i;
            Check.outcome(() -> mint.withdraw(0, 0, seed, 0));
        }
        CHECK.due("coins(0) after a ninth coin", mint.coins(0), 8);
    }

    /** "NONE when there is no such account" */
    private static void noSuchAccount() {
        for (int odd : Check.NO_ACCOUNTS) {
            CHECK.due("coins(" + odd + ")", new BlindMint().coins(odd), BlindMint.NONE);
        }
        CHECK.due("coins(0)", new BlindMint().coins(0), 0);
        CHECK.due("coins(3)", new BlindMint().coins(3), 0);
    }
}
