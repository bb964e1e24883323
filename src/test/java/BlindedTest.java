import java.math.BigInteger;

/** Promise 14: blinded. */
public final class BlindedTest {
    private static final Check CHECK = new Check();

    public static void main(String[] args) {
        CHECK.each(
                BlindedTest::noneSigned,
                BlindedTest::signedLast,
                BlindedTest::factorsInCommon,
                BlindedTest::twoInARowWithFactorsInCommon);
        CHECK.finish();
    }

    /** "NONE when it signed none": a coin that is refused, in whatever way, is not signed. */
    private static void noneSigned() {
        CHECK.due("blinded() of a new object", new BlindMint().blinded(), -1L);
        BlindMint mint = new BlindMint();
        CHECK.refused("withdraw by no account", Check.ARGUMENT, () -> mint.withdraw(4, 0, 1, 0));
        for (int i = 0; i < 99; i++) {
            CHECK.refused("withdraw by a cheat", Check.STATE, () -> mint.withdraw(0, 0, 1, 63));
        }
        CHECK.refused("withdraw of 5 from 1", Check.STATE, () -> mint.withdraw(0, 1, 1, 0));
        CHECK.due("blinded() when none was signed", mint.blinded(), -1L);
    }

    private static BlindMint full() {
        BlindMint mint = new BlindMint();
        for (int i = 0; i < 8; i++) {
            mint.withdraw(0, 0, 2000 + i, 0);
        }
        return mint;
    }

    /** "The blinded number that the mint signed last", of whatever account; a refused coin does not change it. */
    private static void signedLast() {
        BlindMint mint = new BlindMint();
        for (int i = 0; i < 6; i++) {
            isBlinded(mint, i % 3, 1000 + i, Forger.hash(1000 + i, 100));
        }
        long last = mint.blinded();
        mint.spend(0, 0, 1, 1);
        mint.deposit(0, 1);
        CHECK.refused("withdraw by a cheat", Check.STATE, () -> mint.withdraw(0, 0, 1, 63));
        CHECK.due("blinded() after other calls", mint.blinded(), last);
        mint.withdraw(3, 1, 1, 0);
        CHECK.due("blinded() after another account's coin", mint.blinded(),
                Forger.blind(mint.coin(3, 0), Forger.blindingFactor(1, 1), 1));
        CHECK.refusedUnchanged("withdraw for a full wallet", Check.STATE, BlindedTest::full,
                x -> x.withdraw(0, 0, 1, 0));
        CHECK.due("what blinded changes", Check.changes(BlindedTest::full, BlindMint::blinded).size(), 0);
    }

    private static void isBlinded(BlindMint mint, int denomination, long seed, long r) {
        int coin = mint.withdraw(0, denomination, seed, 0);
        long m = mint.coin(0, coin);
        CHECK.due("blinded() with the factor " + r, mint.blinded(), Forger.blind(m, r, denomination));
        CHECK.due("the signature with the factor " + r, mint.signature(0, coin), Forger.sign(m, denomination));
    }

    /** "the least number from draw 100 of the seed on that has no factor in common with the modulus" */
    private static void factorsInCommon() {
        for (int d = 0; d < 3; d++) {
            drawn(d, 0, 1);
            drawn(d, 1, 1);
            for (long factor : new long[] {Forger.P[d], Forger.Q[d]}) {
                long greatest = ((1L << 59) - 1) / factor * factor;
                for (long multiple : new long[] {factor, factor * 12345, greatest}) {
                    drawn(d, multiple - 1, multiple - 1);
                    drawn(d, multiple, multiple + 1);
                    drawn(d, multiple + 1, multiple + 1);
                }
            }
            drawn(d, (1L << 59) - 1, (1L << 59) - 1);
        }
    }

    /** The same words, where one factor divides the draw, and the other the number behind it. */
    private static void twoInARowWithFactorsInCommon() {
        for (int d = 0; d < 3; d++) {
            long p = Forger.P[d];
            long q = Forger.Q[d];
            long inverse = BigInteger.valueOf(p).modInverse(BigInteger.valueOf(q)).longValueExact();
            long below = (q - inverse) * p;
            long above = inverse * p;
            CHECK.due("a multiple of p just below one of q", (below + 1) % q, 0L);
            CHECK.due("a multiple of p just above one of q", (above - 1) % q, 0L);
            if (below < 1L << 59) {
                drawn(d, below, below + 2);
            }
            if (above < 1L << 59) {
                drawn(d, above - 1, above + 1);
            }
            CHECK.due("two multiples in a row were drawn", below < 1L << 59 || above < 1L << 59, true);
        }
    }

    private static void drawn(int denomination, long draw, long r) {
        long seed = Forger.seedWithDraw(100, draw, 0);
        CHECK.due("draw 100", Forger.hash(seed, 100), draw);
        CHECK.due("the factor from " + draw + " on", Forger.blindingFactor(seed, denomination), r);
        isBlinded(new BlindMint(), denomination, seed, r);
    }
}
