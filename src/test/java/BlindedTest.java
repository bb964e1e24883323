import java.math.BigInteger;

/** Promise 14: blinded. */
public final class BlindedTest {
    private static final Check CHECK = new Check();

    public static void main(String[] args) {
        ordinary();
        for (int d = 0; d < 3; d++) {
            factorsInCommon(d);
        }
        CHECK.finish();
    }

    private static void ordinary() {
        BlindMint mint = new BlindMint();
        CHECK.due("blinded() at first", mint.blinded(), -1L);
        CHECK.refused("withdraw by a cheat", Check.STATE, () -> mint.withdraw(0, 0, 1, 63));
        CHECK.refused("withdraw with wrong arguments", Check.ARGUMENT, () -> mint.withdraw(0, 3, 1, 0));
        CHECK.due("blinded() when none was signed", mint.blinded(), -1L);
        for (int i = 0; i < 6; i++) {
            isBlinded(mint, i % 3, 1000 + i, Forger.hash(1000 + i, 100));
        }
        long last = mint.blinded();
        mint.spend(0, 0, 1, 1);
        mint.deposit(0, 1);
        CHECK.refused("withdraw by a cheat", Check.STATE, () -> mint.withdraw(0, 0, 1, 63));
        CHECK.due("blinded() after other calls", mint.blinded(), last);
    }

    private static void isBlinded(BlindMint mint, int denomination, long seed, long r) {
        int coin = mint.withdraw(0, denomination, seed, 0);
        long m = mint.coin(0, coin);
        CHECK.due("blinded() with the factor " + r, mint.blinded(), Forger.blind(m, r, denomination));
        CHECK.due("the signature with the factor " + r, mint.signature(0, coin), Forger.sign(m, denomination));
    }

    /** Seeds whose draw 100 is, or is just below, what has a factor in common with the modulus. */
    private static void factorsInCommon(int d) {
        long p = Forger.P[d];
        long q = Forger.Q[d];
        drawn(d, 0, 1);
        drawn(d, 1, 1);
        drawn(d, p, p + 1);
        drawn(d, q, q + 1);
        drawn(d, p - 1, p - 1);
        drawn(d, q + 1, q + 1);
        drawn(d, p * 12345, p * 12345 + 1);
        drawn(d, (1L << 59) - 1, (1L << 59) - 1);
        BigInteger inverse = BigInteger.valueOf(p).modInverse(BigInteger.valueOf(q));
        long below = (q - inverse.longValueExact()) * p;
        long above = inverse.longValueExact() * p;
        CHECK.due("a multiple of p just below one of q", (below + 1) % q, 0L);
        CHECK.due("a multiple of p just above one of q", (above - 1) % q, 0L);
        if (below < 1L << 59) {
            drawn(d, below, below + 2);
        }
        if (above < 1L << 59) {
            drawn(d, above - 1, above + 1);
        }
        CHECK.due("two multiples in a row were drawn", below < 1L << 59 || above < 1L << 59, true);
    }

    private static void drawn(int denomination, long draw, long r) {
        long seed = Forger.seedWithDraw(100, draw);
        CHECK.due("draw 100", Forger.hash(seed, 100), draw);
        CHECK.due("the factor from " + draw + " on", Forger.blindingFactor(seed, denomination), r);
        isBlinded(new BlindMint(), denomination, seed, r);
    }
}
