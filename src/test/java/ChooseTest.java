/** Promise 3: choose. */
public final class ChooseTest {
    private static final Check CHECK = new Check();
    private static final int[] MIXED = {0, 2, 1, 0, 1, 2, 0};
    private static final int[] FULL = {0, 1, 2, 1, 0, 2, 1, 2};

    public static void main(String[] args) {
        CHECK.each(
                ChooseTest::ordinary,
                ChooseTest::worthMoreFirst,
                ChooseTest::leastNumberFirst,
                ChooseTest::justTakenAndJustExceeded,
                ChooseTest::noSuchAccount,
                ChooseTest::amountBelowOne,
                ChooseTest::emptyWallet,
                ChooseTest::fullWallet,
                ChooseTest::spentCoinsAreNotTaken,
                ChooseTest::allSpent,
                ChooseTest::moreThanThereIs,
                ChooseTest::argumentsBeforeElements);
        CHECK.finish();
    }

    /** Account 2 has coins of these denominations. */
    private static BlindMint wallet(int... denominations) {
        BlindMint mint = new BlindMint();
        for (int i = 0; i < denominations.length; i++) {
            mint.withdraw(2, denominations[i], 500 + i, 0);
        }
        return mint;
    }

    private static void notMade(BlindMint mint, int amount) {
        CHECK.refused("choose(2, " + amount + ")", Check.NO_ELEMENT, () -> mint.choose(2, amount));
    }

    /** "Which coins of a wallet that were not spent make an amount, as bits"; coins worth 1, 20, 5, 1, 5, 20, 1. */
    private static void ordinary() {
        BlindMint mint = wallet(MIXED);
        int[][] due = {{1, 1}, {2, 9}, {3, 73}, {5, 4}, {6, 5}, {7, 13}, {10, 20}, {11, 21}, {13, 93},
            {20, 2}, {21, 3}, {25, 6}, {33, 95}, {40, 34}, {45, 38}, {50, 54}, {53, 127}};
        for (int[] row : due) {
            CHECK.due("choose(2, " + row[0] + ")", mint.choose(2, row[0]), row[1]);
        }
        CHECK.due("choose again", mint.choose(2, 53), 127);
        CHECK.due("what choose changes", Check.changes(() -> wallet(MIXED), x -> x.choose(2, 53)).size(), 0);
    }

    /** "those that are worth more are looked at first" */
    private static void worthMoreFirst() {
        BlindMint mint = wallet(0, 0, 0, 0, 0, 1);
        CHECK.due("5 of five ones and a five", mint.choose(2, 5), 32);
        CHECK.due("10 of five ones and a five", mint.choose(2, 10), 63);
        BlindMint other = wallet(1, 1, 1, 1, 2);
        CHECK.due("20 of four fives and a twenty", other.choose(2, 20), 16);
        CHECK.due("40 of four fives and a twenty", other.choose(2, 40), 31);
    }

    /** "of the same worth that with the least number first" */
    private static void leastNumberFirst() {
        for (int d = 0; d < 3; d++) {
            BlindMint mint = wallet(d, d, d);
            for (int i = 1; i <= 3; i++) {
                CHECK.due(i + " coins of denomination " + d, mint.choose(2, i * Forger.WORTH[d]), (1 << i) - 1);
            }
        }
    }

    /** "each is taken if the amount is not exceeded": a coin worth just what is left is taken, one more is not. */
    private static void justTakenAndJustExceeded() {
        for (int d = 0; d < 3; d++) {
            int worth = Forger.WORTH[d];
            BlindMint mint = wallet(d, d);
            CHECK.due("a coin of " + worth + " for as much", mint.choose(2, worth), 1);
            CHECK.due("two coins of " + worth + " for as much", mint.choose(2, 2 * worth), 3);
            for (int amount : new int[] {worth - 1, 2 * worth - 1, 2 * worth + 1}) {
                String due = amount == 0 ? "throws.IllegalArgumentException"
                        : amount == worth ? "1" : "throws.NoSuchElementException";
                CHECK.due("choose of " + amount, Check.outcome(() -> mint.choose(2, amount)), due);
            }
        }
        CHECK.due("19 of a twenty, three fives and four ones", wallet(2, 1, 1, 1, 0, 0, 0, 0).choose(2, 19), 254);
        CHECK.due("4 of a five and four ones", wallet(1, 0, 0, 0, 0).choose(2, 4), 30);
    }

    /** "IllegalArgumentException, when there is no such account" */
    private static void noSuchAccount() {
        for (int odd : Check.NO_ACCOUNTS) {
            CHECK.refusedUnchanged("choose for account " + odd, Check.ARGUMENT, () -> wallet(MIXED),
                    mint -> mint.choose(odd, 1));
        }
        for (int account = 0; account < 4; account++) {
            BlindMint mint = new BlindMint();
            mint.withdraw(account, 0, 9, 0);
            CHECK.due("choose for account " + account, mint.choose(account, 1), 1);
        }
    }

    /** "or amount is below 1" */
    private static void amountBelowOne() {
        for (int odd : new int[] {0, -1, Integer.MIN_VALUE}) {
            CHECK.refusedUnchanged("choose of " + odd, Check.ARGUMENT, () -> wallet(MIXED),
                    mint -> mint.choose(2, odd));
        }
        CHECK.due("choose of 1", wallet(MIXED).choose(2, 1), 1);
    }

    /** "NoSuchElementException, when those that are taken do not make the amount": of no coins there are none. */
    private static void emptyWallet() {
        for (int amount : new int[] {1, 5, 20, Integer.MAX_VALUE}) {
            CHECK.refusedUnchanged("choose of " + amount + " from an empty wallet", Check.NO_ELEMENT,
                    () -> wallet(MIXED), mint -> mint.choose(0, amount));
        }
    }

    /** All eight coins of a wallet, the least of them and the last; they make 77. */
    private static void fullWallet() {
        BlindMint mint = wallet(FULL);
        CHECK.due("all of a full wallet", mint.choose(2, 77), 255);
        CHECK.due("all but a one", mint.choose(2, 76), 255 - 16);
        CHECK.due("all twenties", mint.choose(2, 60), 4 + 32 + 128);
        notMade(mint, 78);
        CHECK.due("the eighth alone", wallet(0, 0, 0, 0, 0, 0, 0, 2).choose(2, 20), 128);
    }

    /** "coins of a wallet that were not spent" */
    private static void spentCoinsAreNotTaken() {
        BlindMint mint = wallet(MIXED);
        mint.spend(2, 0, 1, 1);
        mint.spend(2, 1, 1, 1);
        CHECK.due("1 after coin 0 was spent", mint.choose(2, 1), 8);
        CHECK.due("20 after coin 1 was spent", mint.choose(2, 20), 32);
        notMade(mint, 40);
        notMade(mint, 3);
        mint.spend(2, 5, 1, 1);
        notMade(mint, 20);
        CHECK.due("12 after that", mint.choose(2, 12), 4 + 8 + 16 + 64);
        mint.deposit(0, 2);
        CHECK.due("1 after coin 0 was deposited", mint.choose(2, 1), 8);
    }

    /** The same words, when no coin is left that was not spent. */
    private static void allSpent() {
        BlindMint mint = wallet(FULL);
        for (int i = 0; i < 8; i++) {
            CHECK.due("the last coin, and those before it not", mint.choose(2, 20), i < 3 ? 4 : i < 6 ? 32 : 128);
            mint.spend(2, i, 1, 1);
        }
        for (int amount : new int[] {1, 5, 20, 77}) {
            notMade(mint, amount);
        }
    }

    /** "when those that are taken do not make the amount" */
    private static void moreThanThereIs() {
        for (int amount : new int[] {4, 9, 14, 19, 24, 34, 54, 100, Integer.MAX_VALUE}) {
            CHECK.refusedUnchanged("choose(2, " + amount + ")", Check.NO_ELEMENT, () -> wallet(MIXED),
                    mint -> mint.choose(2, amount));
        }
    }

    /** "What it throws is tested in the order in which it stands there." */
    private static void argumentsBeforeElements() {
        for (int odd : new int[] {0, -1}) {
            CHECK.refusedUnchanged("choose of " + odd + " from an empty wallet", Check.ARGUMENT,
                    () -> wallet(MIXED), mint -> mint.choose(0, odd));
            CHECK.refusedUnchanged("choose of " + odd + " for no account", Check.ARGUMENT,
                    () -> wallet(MIXED), mint -> mint.choose(4, odd));
        }
        CHECK.refusedUnchanged("choose of too much for no account", Check.ARGUMENT,
                () -> wallet(MIXED), mint -> mint.choose(-1, 100));
    }
}
