/** Promise 15: count. */
public final class CountTest {
    private static final Check CHECK = new Check();

    public static void main(String[] args) {
        CHECK.each(
                CountTest::nothingAtFirst,
                CountTest::withdrawn,
                CountTest::deposited,
                CountTest::cheatsFound,
                CountTest::depositedAgain,
                CountTest::refusedCallsDoNotCount,
                CountTest::anotherOne);
        CHECK.finish();
    }

    private static void counts(BlindMint mint, String when, int... due) {
        for (int what = 0; what < 4; what++) {
            CHECK.due("count(" + what + ") " + when, mint.count(what), due[what]);
        }
    }

    /** Account 0 has a coin of 1; account 1 has coins of 5 and 20, that of 5 was paid with twice. */
    private static BlindMint threeCoins() {
        BlindMint mint = new BlindMint();
        mint.withdraw(0, 0, 1, 0);
        mint.withdraw(1, 1, 2, 0);
        mint.withdraw(1, 2, 3, 0);
        mint.spend(0, 0, 1, 1);
        mint.spend(1, 0, 1, 1);
        mint.spend(1, 0, 1, 2);
        return mint;
    }

    private static void nothingAtFirst() {
        counts(new BlindMint(), "at first", 0, 0, 0, 0);
    }

    /** "How many coins were withdrawn (0)" */
    private static void withdrawn() {
        BlindMint mint = new BlindMint();
        for (int i = 0; i < 20; i++) {
            mint.withdraw(i % 4, i % 2, i, 0);
            counts(mint, "after coin " + i, i + 1, 0, 0, 0);
        }
        counts(threeCoins(), "after three coins and three payments", 3, 0, 0, 0);
    }

    /** "were deposited (1)" */
    private static void deposited() {
        BlindMint mint = threeCoins();
        mint.deposit(0, 3);
        counts(mint, "after a deposit", 3, 1, 0, 0);
        mint.deposit(2, 3);
        counts(mint, "after two deposits", 3, 2, 0, 0);
    }

    /** "how many candidates that cheated the mint has found (2)": those that it opened, one or two of them. */
    private static void cheatsFound() {
        BlindMint mint = threeCoins();
        CHECK.refused("withdraw where all cheat", Check.STATE, () -> mint.withdraw(2, 2, 10, 63));
        counts(mint, "after two cheats were found", 3, 0, 2, 0);
        long seed = 10;
        while ((Forger.opened(Forger.candidates(seed, 2, 1)) & 1) == 0) {
            seed++;
        }
        long found = seed;
        CHECK.refused("withdraw where one cheats", Check.STATE, () -> mint.withdraw(2, 2, found, 1));
        counts(mint, "after one cheat more was found", 3, 0, 3, 0);
        while ((Forger.opened(Forger.candidates(seed, 2, 1)) & 1) != 0) {
            seed++;
        }
        mint.withdraw(2, 2, seed, 1);
        counts(mint, "after a cheat that was not opened", 4, 0, 3, 0);
    }

    /** "and how often a coin was deposited again (3)": by the same payment or another, to any account. */
    private static void depositedAgain() {
        BlindMint mint = threeCoins();
        mint.deposit(0, 3);
        mint.deposit(1, 3);
        for (int k = 0; k < 12; k++) {
            int p = k % 3;
            int account = k % 4;
            CHECK.refused("deposit again", Check.STATE, () -> mint.deposit(p, account));
            counts(mint, "after deposits again", 3, 2, 0, k + 1);
        }
    }

    private static void refusedCallsDoNotCount() {
        CHECK.refusedUnchanged("deposit of no payment", Check.ARGUMENT, CountTest::threeCoins,
                mint -> mint.deposit(3, 3));
        CHECK.refusedUnchanged("withdraw by no account", Check.ARGUMENT, CountTest::threeCoins,
                mint -> mint.withdraw(4, 0, 1, 63));
        CHECK.refusedUnchanged("withdraw of too much", Check.STATE, () -> {
            BlindMint mint = threeCoins();
            for (int i = 0; i < 5; i++) {
                mint.withdraw(3, 2, i, 0);
            }
            return mint;
        }, mint -> mint.withdraw(3, 0, 1, 0));
        CHECK.refusedUnchanged("spend of no coin", Check.ARGUMENT, CountTest::threeCoins,
                mint -> mint.spend(3, 0, 1, 1));
    }

    /** "what of these; NONE for another one", on an object where each of the four is another number. */
    private static void anotherOne() {
        BlindMint mint = threeCoins();
        mint.deposit(1, 3);
        Check.outcome(() -> mint.deposit(1, 3));
        Check.outcome(() -> mint.deposit(2, 3));
        for (int i = 0; i < 2; i++) {
            Check.outcome(() -> mint.withdraw(2, 2, 10, 63));
        }
        counts(mint, "when all are unlike", 3, 1, 4, 2);
        for (int odd : new int[] {-1, 4, 5, Integer.MIN_VALUE, Integer.MAX_VALUE}) {
            CHECK.due("count(" + odd + ")", mint.count(odd), BlindMint.NONE);
            CHECK.due("count(" + odd + ") of a new object", new BlindMint().count(odd), BlindMint.NONE);
        }
    }
}
