import java.math.BigInteger;

/**
 * Works the document's terms out with big numbers, and runs them backwards: HASH keeps all but five bits,
 * so seeds and parts with any wanted hash can be found, and the primes of the moduli are known.
 */
final class Forger {
    static final int[] WORTH = {1, 5, 20};
    static final long[] P = {1073741789L, 998244389L, 1050000041L};
    static final long[] Q = {1000000007L, 900000011L, 1020000011L};

    private static final BigInteger TWO_64 = BigInteger.ONE.shiftLeft(64);
    private static final BigInteger FACTOR = new BigInteger("6364136223846793005");
    private static final BigInteger ADDEND = new BigInteger("1442695040888963407");
    private static final BigInteger EXPONENT = BigInteger.valueOf(17);

    private Forger() {
    }

    static long hash(long... values) {
        BigInteger h = BigInteger.valueOf(7);
        for (long v : values) {
            h = h.xor(unsigned(v)).multiply(FACTOR).add(ADDEND).mod(TWO_64);
            h = h.xor(h.shiftRight(29));
        }
        return h.mod(BigInteger.ONE.shiftLeft(59)).longValueExact();
    }

    /** One w of those for which HASH(.., w) is the wanted hash; high (0 .. 31) says which. */
    static long last(long wanted, long high, long... first) {
        return stateAfter(first) ^ before(wanted | high << 59);
    }

    /** The seed whose draw k is the wanted one. */
    static long seedWithDraw(int k, long wanted) {
        return 7 ^ before(before(wanted) ^ k);
    }

    static BigInteger modulus(int denomination) {
        return BigInteger.valueOf(P[denomination]).multiply(BigInteger.valueOf(Q[denomination]));
    }

    static long raise(long s, int denomination) {
        return BigInteger.valueOf(s).modPow(EXPONENT, modulus(denomination)).longValueExact();
    }

    static long sign(long m, int denomination) {
        BigInteger phi = BigInteger.valueOf(P[denomination] - 1).multiply(BigInteger.valueOf(Q[denomination] - 1));
        return BigInteger.valueOf(m).modPow(EXPONENT.modInverse(phi), modulus(denomination)).longValueExact();
    }

    static long blindingFactor(long seed, int denomination) {
        BigInteger r = BigInteger.valueOf(hash(seed, 100));
        while (!r.gcd(modulus(denomination)).equals(BigInteger.ONE)) {
            r = r.add(BigInteger.ONE);
        }
        return r.longValueExact();
    }

    static long blind(long m, long r, int denomination) {
        BigInteger n = modulus(denomination);
        BigInteger factor = BigInteger.valueOf(r).modPow(EXPONENT, n);
        return BigInteger.valueOf(m).multiply(factor).mod(n).longValueExact();
    }

    static long coinNumber(long denomination, long[] pairHashes) {
        return hash(denomination, pairHashes[0], pairHashes[1], pairHashes[2], pairHashes[3]);
    }

    /** A payment with the mint's signature under any four pair hashes, and with the v's that are given. */
    static long[] payment(int denomination, long[] pairHashes, long merchant, long nonce, long[] vs) {
        long signature = sign(coinNumber(denomination, pairHashes), denomination);
        return payment(denomination, signature, pairHashes, merchant, nonce, vs);
    }

    static long[] payment(long denomination, long signature, long[] pairHashes, long merchant, long nonce,
            long[] vs) {
        long[] numbers = new long[16];
        numbers[0] = denomination;
        numbers[1] = signature;
        numbers[2] = merchant;
        numbers[3] = nonce;
        long c = hash(merchant, nonce, signature);
        for (int j = 0; j < 4; j++) {
            long[] part = part((c >> j & 1) == 1, pairHashes[j], vs[j]);
            System.arraycopy(part, 0, numbers, 4 + 3 * j, 3);
        }
        return numbers;
    }

    /** Three numbers v, w, z that make a pair hash. */
    static long[] part(boolean one, long pairHash, long v) {
        if (one) {
            long w = 77;
            return new long[] {v, w, last(pairHash, 0, hash(v, w))};
        }
        for (long z = 0; z < 10000; z++) {
            long opened = last(pairHash, 0, z);
            if (opened >= 0 && opened < 1L << 59) {
                return new long[] {v, last(opened, 0, v), z};
            }
        }
        throw new AssertionError("no part found");
    }

    /** Another w for another v, so that HASH(v, w) of a part stays as it was. */
    static long otherSecond(long v, long w, long otherV) {
        return last(hash(v, w), 0, otherV);
    }

    /** Tampers with a payment until it has these numbers. */
    static void write(BlindMint mint, int p, long[] numbers) {
        for (int i = 0; i < numbers.length; i++) {
            long now = mint.number(p, i);
            if (now != numbers[i]) {
                mint.tamper(p, i, now ^ numbers[i]);
            }
        }
    }

    /** A nonce for the merchant with which c of this signature has these four lowest bits. */
    static int nonceFor(int merchant, long signature, long bits) {
        for (int nonce = 0; nonce < 100000; nonce++) {
            if ((hash(merchant, nonce, signature) & 15) == bits) {
                return nonce;
            }
        }
        throw new AssertionError("no nonce found");
    }

    private static BigInteger unsigned(long v) {
        return BigInteger.valueOf(v).mod(TWO_64);
    }

    private static long stateAfter(long... values) {
        BigInteger h = BigInteger.valueOf(7);
        for (long v : values) {
            h = h.xor(unsigned(v)).multiply(FACTOR).add(ADDEND).mod(TWO_64);
            h = h.xor(h.shiftRight(29));
        }
        return h.longValue();
    }

    /** What was h xor v before a step that ended in this state. */
    private static long before(long state) {
        long mixed = state ^ (state >>> 29) ^ (state >>> 58);
        return unsigned(mixed).subtract(ADDEND).multiply(FACTOR.modInverse(TWO_64)).mod(TWO_64).longValue();
    }
}
