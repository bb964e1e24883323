import java.util.List;

/** What NarrowHashTest runs, with the class whose HASH keeps so many bits as the argument says. */
public final class NarrowRuns {
    private static final Check CHECK = new Check();
    private static final int SEEDS = 400;
    private static final int RUNS = 60;

    private static int equalPairHashes = 0;
    private static int zeroNumbers = 0;

    public static void main(String[] args) {
        Forger.hashBits = Integer.parseInt(args[0]);
        CHECK.each(NarrowRuns::equalOnesByGrowingJ, NarrowRuns::drawnRuns);
        CHECK.finish();
    }

    private static void drawnRuns() {
        for (int seed = 0; seed < RUNS; seed++) {
            new RandomRun(CHECK, seed).make();
        }
    }

    /** "by growing pair hashes (equal ones by growing j)"; the reference's sort leaves equal ones as they stand. */
    private static void equalOnesByGrowingJ() {
        for (long seed = 0; seed < SEEDS; seed++) {
            isMadeAsDue(seed, (int) seed % 4, (int) seed % 3);
        }
        CHECK.due("some coins have unlike parts of equal pair hashes", equalPairHashes > 5, true);
        CHECK.due("with few bits some coins have the number 0", zeroNumbers > 0 || Forger.hashBits > 6, true);
    }

    private static void isMadeAsDue(long seed, int account, int denomination) {
        BlindMint mint = new BlindMint();
        Reference reference = new Reference();
        CHECK.due("withdraw of seed " + seed, mint.withdraw(account, denomination, seed, 0),
                reference.withdraw(account, denomination, seed, 0));
        CHECK.due("coin of seed " + seed, mint.coin(account, 0), reference.coin(account, 0));
        CHECK.due("signature of seed " + seed, mint.signature(account, 0), reference.signature(account, 0));
        CHECK.due("blinded() of seed " + seed, mint.blinded(), reference.blinded());
        for (int p = 0; p < 20; p++) {
            mint.spend(account, 0, 1, p);
            reference.spend(account, 0, 1, p);
            for (int i = 0; i < 16; i++) {
                CHECK.due("number(" + p + ", " + i + ") of seed " + seed, mint.number(p, i), reference.number(p, i));
            }
            CHECK.due("good(" + p + ") of seed " + seed, mint.good(p), true);
        }
        equalPairHashes += hasUnlikeParts(Forger.parts(Forger.candidates(seed, account, 0))) ? 1 : 0;
        zeroNumbers += mint.coin(account, 0) == 0 ? 1 : 0;
    }

    /** Whether two parts have the same pair hash, and can be told from each other by their A, C or E. */
    private static boolean hasUnlikeParts(List<long[]> parts) {
        for (int j = 1; j < 4; j++) {
            long[] one = parts.get(j - 1);
            long[] other = parts.get(j);
            if (one[6] == other[6] && (one[0] != other[0] || one[1] != other[1] || one[4] != other[4])) {
                return true;
            }
        }
        return false;
    }
}
