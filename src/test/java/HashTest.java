import java.util.List;

/** The term HASH, seen in the numbers of coins and payments. */
public final class HashTest {
    private static final Check CHECK = new Check();
    private static final long MOST = (1L << 59) - 1;

    public static void main(String[] args) {
        CHECK.each(
                HashTest::seedsOfAllSizes,
                HashTest::sumsThatWrapAround,
                HashTest::movedDownWithoutSign,
                HashTest::lowestBitsAlone,
                HashTest::intsWidenedWithTheirSign);
        CHECK.finish();
    }

    /** The coin of a seed has the number and the parts that the terms, worked out with big numbers, give it. */
    private static void isMadeOf(String what, long seed) {
        BlindMint mint = new BlindMint();
        mint.withdraw(0, 0, seed, 0);
        List<long[]> due = Forger.parts(Forger.candidates(seed, 0, 0));
        CHECK.due("coin(0, 0) of " + what, mint.coin(0, 0), Forger.coinNumber(0, Forger.pairHashes(due)));
        List<long[]> told = Forger.learnParts(mint, 0, 0);
        for (int j = 0; j < 4; j++) {
            for (int i = 0; i < 6; i++) {
                CHECK.due("number " + i + " of part " + j + " of " + what, told.get(j)[i], due.get(j)[i]);
            }
        }
    }

    /** "HASH(v1, .., vk) is made of numbers of 64 bits"; of the seed 7, "h xor v" is 0. */
    private static void seedsOfAllSizes() {
        for (long seed : new long[] {0, 1, -1, 7, 6, ~7, Integer.MIN_VALUE, Integer.MAX_VALUE, 1L << 32, 1L << 62,
            Long.MIN_VALUE, Long.MIN_VALUE + 1, Long.MAX_VALUE, Long.MAX_VALUE - 1}) {
            isMadeOf("seed " + seed, seed);
        }
    }

    /** "modulo 2^64": the sum is just below 2^64, and just at it. */
    private static void sumsThatWrapAround() {
        for (long sum : new long[] {-1, 0, -2, 1}) {
            isMadeOf("the seed whose sum is " + Long.toUnsignedString(sum), Forger.seedWithSum(sum));
        }
    }

    /** "h xor (h moved down by 29 bits, without sign)": the sum with its highest bit, and without it. */
    private static void movedDownWithoutSign() {
        for (long sum : new long[] {Long.MAX_VALUE, Long.MIN_VALUE, Long.MIN_VALUE | 1, Long.MIN_VALUE | 1L << 29,
            (1L << 29) - 1, 1L << 29}) {
            isMadeOf("the seed whose sum is " + Long.toUnsignedString(sum), Forger.seedWithSum(sum));
        }
    }

    /** "the lowest 59 bits of h at last": the least draw and the greatest, whatever the five other bits are. */
    private static void lowestBitsAlone() {
        for (long wanted : new long[] {0, 1, MOST - 1, MOST}) {
            for (int i = 0; i < 3; i++) {
                int tested = 0;
                for (int high = 0; high < 32; high++) {
                    tested += hasDraw(high % 6, i, wanted, high) ? 1 : 0;
                }
                CHECK.due("some coins had a draw of " + wanted, tested > 5, true);
            }
        }
    }

    /** Whether candidate j, whose draw i is the wanted one, is a part of its seed's coin; if so, it is tested. */
    private static boolean hasDraw(int j, int i, long wanted, int high) {
        long seed = Forger.seedWithDraw(3 * j + i, wanted, high);
        List<long[]> candidates = Forger.candidates(seed, 0, 0);
        if ((Forger.opened(candidates) & 1 << j) != 0) {
            return false;
        }
        BlindMint mint = new BlindMint();
        mint.withdraw(0, 0, seed, 0);
        int part = Forger.parts(candidates).indexOf(candidates.get(j));
        int place = i == 2 ? 4 : i;
        CHECK.due("draw " + (3 * j + i) + " of seed " + seed, Forger.learnParts(mint, 0, 0).get(part)[place], wanted);
        isMadeOf("seed " + seed, seed);
        return true;
    }

    /** "ints are widened with their sign": the bits of c with which a payment is told are those of such ints. */
    private static void intsWidenedWithTheirSign() {
        for (int d = 0; d < 3; d++) {
            BlindMint mint = new BlindMint();
            mint.withdraw(1, d, 40, 0);
            List<long[]> parts = Forger.parts(Forger.candidates(40, 1, 0));
            int unlike = 0;
            for (int merchant : new int[] {-1, Integer.MIN_VALUE, -2, 3}) {
                for (int nonce : new int[] {-1, Integer.MIN_VALUE, -7, Integer.MAX_VALUE}) {
                    unlike += isTold(mint, parts, merchant, nonce) ? 1 : 0;
                }
            }
            CHECK.due("widening without sign would show", unlike > 8, true);
        }
    }

    /** Whether other bits of c would come of ints widened without sign. */
    private static boolean isTold(BlindMint mint, List<long[]> parts, int merchant, int nonce) {
        long signature = mint.signature(1, 0);
        int p = mint.spend(1, 0, merchant, nonce);
        CHECK.due("the merchant " + merchant, mint.number(p, 2), (long) merchant);
        CHECK.due("the nonce " + nonce, mint.number(p, 3), (long) nonce);
        long c = Forger.hash(merchant, nonce, signature);
        for (int j = 0; j < 4; j++) {
            long v = parts.get(j)[(c >> j & 1) == 1 ? 0 : 3];
            String what = "part " + j + " told to " + merchant + " with " + nonce;
            CHECK.due(what, mint.number(p, 4 + 3 * j), v);
        }
        CHECK.due("good to " + merchant + " with " + nonce, mint.good(p), true);
        long unsigned = Forger.hash(Integer.toUnsignedLong(merchant), Integer.toUnsignedLong(nonce), signature);
        return (unsigned & 15) != (c & 15);
    }
}
