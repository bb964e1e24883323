/** Promise 15: count. */
public final class CountTest {
    private static final Check CHECK = new Check();

    public static void main(String[] args) {
        BlindMint mint = new BlindMint();
        counts(mint, "at first", 0, 0, 0, 0);
        mint.withdraw(0, 0, 1, 0);
        mint.withdraw(1, 1, 2, 0);
        mint.withdraw(1, 2, 3, 0);
        counts(mint, "after three coins", 3, 0, 0, 0);
        CHECK.refused("withdraw where all cheat", Check.STATE, () -> mint.withdraw(2, 2, 10, 63));
        counts(mint, "after two cheats were found", 3, 0, 2, 0);
        int first = Integer.numberOfTrailingZeros(Forger.opened(Forger.candidates(10, 2, 0)));
        int alone = openedAlone(first);
        CHECK.refused("withdraw where one cheats", Check.STATE, () -> mint.withdraw(2, 2, 10 + alone, 1 << first));
        counts(mint, "after one cheat more was found", 3, 0, 3, 0);
        mint.spend(0, 0, 1, 1);
        mint.spend(1, 0, 1, 1);
        mint.spend(1, 0, 1, 2);
        counts(mint, "after payments", 3, 0, 3, 0);
        mint.deposit(0, 3);
        mint.deposit(1, 3);
        counts(mint, "after two deposits", 3, 2, 3, 0);
        for (int p = 0; p < 3; p++) {
            int payment = p;
            CHECK.refused("deposit again", Check.STATE, () -> mint.deposit(payment, 3));
            counts(mint, "after deposits again", 3, 2, 3, p + 1);
        }
        CHECK.refused("deposit of no payment", Check.ARGUMENT, () -> mint.deposit(3, 3));
        CHECK.refused("withdraw by no account", Check.ARGUMENT, () -> mint.withdraw(4, 0, 1, 0));
        CHECK.refused("spend of no coin", Check.ARGUMENT, () -> mint.spend(3, 0, 1, 1));
        counts(mint, "after calls with wrong arguments", 3, 2, 3, 3);
        CHECK.finish();
    }

    /** How far from 10 a seed is for which the mint opens this candidate when it alone cheats. */
    private static int openedAlone(int candidate) {
        int k = 0;
        while ((Forger.opened(Forger.candidates(10 + k, 2, 1 << candidate)) & 1 << candidate) == 0) {
            k++;
        }
        return k;
    }

    private static void counts(BlindMint mint, String when, int... due) {
        for (int what = 0; what < 4; what++) {
            CHECK.due("count(" + what + ") " + when, mint.count(what), due[what]);
        }
        for (int odd : new int[] {-1, 4, Integer.MIN_VALUE, Integer.MAX_VALUE}) {
            CHECK.due("count(" + odd + ") " + when, mint.count(odd), -1);
        }
    }
}
