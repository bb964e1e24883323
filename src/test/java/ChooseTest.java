/** Promise 3: choose. */
public final class ChooseTest {
    private static final Check CHECK = new Check();
    private static final int[] DENOMINATIONS = {0, 2, 1, 0, 1, 2, 0};

    public static void main(String[] args) {
        ordinary();
        spentCoins();
        wrongInputs();
        CHECK.finish();
    }

    /** Account 2 has coins worth 1, 20, 5, 1, 5, 20, 1. */
    private static BlindMint wallet() {
        BlindMint mint = new BlindMint();
        for (int i = 0; i < DENOMINATIONS.length; i++) {
            mint.withdraw(2, DENOMINATIONS[i], 500 + i, 0);
        }
        return mint;
    }

    private static void ordinary() {
        BlindMint mint = wallet();
        int[][] due = {{1, 1}, {2, 9}, {3, 73}, {5, 4}, {6, 5}, {7, 13}, {10, 20}, {11, 21}, {13, 93},
            {20, 2}, {21, 3}, {25, 6}, {33, 95}, {40, 34}, {45, 38}, {50, 54}, {53, 127}};
        for (int[] row : due) {
            CHECK.due("choose(2, " + row[0] + ")", mint.choose(2, row[0]), row[1]);
        }
        for (int amount : new int[] {4, 9, 14, 19, 24, 34, 54, 100, Integer.MAX_VALUE}) {
            CHECK.refused("choose(2, " + amount + ")", Check.NO_ELEMENT, () -> mint.choose(2, amount));
        }
        CHECK.due("choose again", mint.choose(2, 53), 127);
    }

    private static void spentCoins() {
        BlindMint mint = wallet();
        mint.spend(2, 0, 1, 1);
        mint.spend(2, 1, 1, 1);
        CHECK.due("1 after coin 0 was spent", mint.choose(2, 1), 8);
        CHECK.due("20 after coin 1 was spent", mint.choose(2, 20), 32);
        CHECK.refused("40 after a 20 was spent", Check.NO_ELEMENT, () -> mint.choose(2, 40));
        CHECK.refused("3 after a 1 was spent", Check.NO_ELEMENT, () -> mint.choose(2, 3));
        mint.spend(2, 5, 1, 1);
        CHECK.refused("20 after both were spent", Check.NO_ELEMENT, () -> mint.choose(2, 20));
        CHECK.due("12 after that", mint.choose(2, 12), 4 + 8 + 16 + 64);
        mint.deposit(0, 2);
        CHECK.due("1 after coin 0 was deposited", mint.choose(2, 1), 8);
    }

    private static void wrongInputs() {
        for (int odd : new int[] {-1, 4, Integer.MIN_VALUE, Integer.MAX_VALUE}) {
            CHECK.refusedUnchanged("choose for account " + odd, Check.ARGUMENT, ChooseTest::wallet,
                    mint -> mint.choose(odd, 1));
        }
        for (int odd : new int[] {0, -1, Integer.MIN_VALUE}) {
            CHECK.refusedUnchanged("choose of " + odd, Check.ARGUMENT, ChooseTest::wallet,
                    mint -> mint.choose(2, odd));
            CHECK.refused("choose of " + odd + " from an empty wallet", Check.ARGUMENT,
                    () -> wallet().choose(0, odd));
        }
        CHECK.refusedUnchanged("choose from an empty wallet", Check.NO_ELEMENT, ChooseTest::wallet,
                mint -> mint.choose(0, 1));
    }
}
