import java.math.BigInteger;
import java.util.ArrayList;
import java.util.List;

/**
 * Works the document's terms out with big numbers, and runs them backwards: HASH keeps all but five bits,
 * so seeds and parts with any wanted hash can be found, and the primes of the moduli are known.
 */
final class Forger {
    static final int[] WORTH = {1, 5, 20};
    static final long[] P = {1073741789L, 998244389L, 1050000041L};
    static final long[] Q = {1000000007L, 900000011L, 1020000011L};

    private static final BigInteger TWO_64 = BigInteger.ONE.shiftLeft(64);
    private static final BigInteger FACTOR = new BigInteger("6364136223846793005");
    private static final BigInteger ADDEND = new BigInteger("1442695040888963407");
    private static final BigInteger EXPONENT = BigInteger.valueOf(17);

    /** How many bits of HASH are kept: the document's 59, but for the runs with a narrow HASH. */
    static int hashBits = 59;

    private Forger() {
    }

    static long hash(long... values) {
        BigInteger h = BigInteger.valueOf(7);
        for (long v : values) {
            h = h.xor(unsigned(v)).multiply(FACTOR).add(ADDEND).mod(TWO_64);
            h = h.xor(h.shiftRight(29));
        }
        return h.mod(BigInteger.ONE.shiftLeft(hashBits)).longValueExact();
    }

    /** One w of those for which HASH(.., w) is the wanted hash; high (0 .. 31) says which. */
    static long last(long wanted, long high, long... first) {
        return stateAfter(first) ^ before(wanted | high << 59);
    }

    /** One seed of those whose draw k is the wanted one; high (0 .. 31) says which. */
    static long seedWithDraw(int k, long wanted, long high) {
        return 7 ^ before(before(wanted | high << 59) ^ k);
    }

    /** The seed for which h, in HASH's first step, is this sum before it is moved down. */
    static long seedWithSum(long sum) {
        return 7 ^ before(sum ^ sum >>> 29);
    }

    static BigInteger modulus(int denomination) {
        return BigInteger.valueOf(P[denomination]).multiply(BigInteger.valueOf(Q[denomination]));
    }

    static long raise(long s, int denomination) {
        return BigInteger.valueOf(s).modPow(EXPONENT, modulus(denomination)).longValueExact();
    }

    static long sign(long m, int denomination) {
        BigInteger phi = BigInteger.valueOf(P[denomination] - 1).multiply(BigInteger.valueOf(Q[denomination] - 1));
        return BigInteger.valueOf(m).modPow(EXPONENT.modInverse(phi), modulus(denomination)).longValueExact();
    }

    static long blindingFactor(long seed, int denomination) {
        BigInteger r = BigInteger.valueOf(hash(seed, 100));
        while (!r.gcd(modulus(denomination)).equals(BigInteger.ONE)) {
            r = r.add(BigInteger.ONE);
        }
        return r.longValueExact();
    }

    static long blind(long m, long r, int denomination) {
        BigInteger n = modulus(denomination);
        BigInteger factor = BigInteger.valueOf(r).modPow(EXPONENT, n);
        return BigInteger.valueOf(m).multiply(factor).mod(n).longValueExact();
    }

    /** A, C, Y, B, E, X and the pair hash of a candidate. */
    static long[] candidate(long seed, int j, int account, boolean cheats) {
        long a = hash(seed, 3 * j);
        long c = hash(seed, 3 * j + 1);
        long e = hash(seed, 3 * j + 2);
        long b = cheats ? a ^ (1000 + account) ^ 1 : a ^ (1000 + account);
        long x = hash(a, c);
        long y = hash(b, e);
        return new long[] {a, c, y, b, e, x, hash(x, y)};
    }

    static List<long[]> candidates(long seed, int account, int cheats) {
        List<long[]> all = new ArrayList<>();
        for (int j = 0; j < 6; j++) {
            all.add(candidate(seed, j, account, (cheats & 1 << j) != 0));
        }
        return all;
    }

    /** The two candidates that the mint opens, as bits. */
    static int opened(List<long[]> candidates) {
        int[] pair = openedPair(candidates);
        return 1 << pair[0] | 1 << pair[1];
    }

    static int[] openedPair(List<long[]> candidates) {
        long t = hash(pairHashes(candidates));
        long first = t % 6;
        long second = (first + 1 + t / 6 % 5) % 6;
        return new int[] {(int) first, (int) second};
    }

    static List<long[]> parts(List<long[]> candidates) {
        List<long[]> parts = new ArrayList<>();
        for (int j = 0; j < 6; j++) {
            if ((opened(candidates) & 1 << j) == 0) {
                parts.add(candidates.get(j));
            }
        }
        parts.sort((one, other) -> Long.compare(one[6], other[6]));
        return parts;
    }

    static long[] pairHashes(List<long[]> candidates) {
        return candidates.stream().mapToLong(candidate -> candidate[6]).toArray();
    }

    static long coinNumber(long denomination, long[] pairHashes) {
        return hash(denomination, pairHashes[0], pairHashes[1], pairHashes[2], pairHashes[3]);
    }

    /** A payment with the mint's signature under any four pair hashes, and with the v's that are given. */
    static long[] payment(int denomination, long[] pairHashes, long merchant, long nonce, long[] vs) {
        long signature = sign(coinNumber(denomination, pairHashes), denomination);
        return payment(denomination, signature, pairHashes, merchant, nonce, vs);
    }

    static long[] payment(long denomination, long signature, long[] pairHashes, long merchant, long nonce,
            long[] vs) {
        long[] numbers = new long[16];
        numbers[0] = denomination;
        numbers[1] = signature;
        numbers[2] = merchant;
        numbers[3] = nonce;
        long c = hash(merchant, nonce, signature);
        for (int j = 0; j < 4; j++) {
            long[] part = part((c >> j & 1) == 1, pairHashes[j], vs[j]);
            System.arraycopy(part, 0, numbers, 4 + 3 * j, 3);
        }
        return numbers;
    }

    /** Three numbers v, w, z that make a pair hash. */
    static long[] part(boolean one, long pairHash, long v) {
        if (one) {
            long w = 77;
            return new long[] {v, w, last(pairHash, 0, hash(v, w))};
        }
        for (long z = 0; z < 10000; z++) {
            long opened = last(pairHash, 0, z);
            if (opened >= 0 && opened < 1L << 59) {
                return new long[] {v, last(opened, 0, v), z};
            }
        }
        throw new AssertionError("no part found");
    }

    /** Another w for another v, so that HASH(v, w) of a part stays as it was. */
    static long otherSecond(long v, long w, long otherV) {
        return last(hash(v, w), 0, otherV);
    }

    /** A, C, Y, B, E and X of each part of a coin, learnt by paying with it twice. */
    static List<long[]> learnParts(BlindMint mint, int account, int coin) {
        long signature = mint.signature(account, coin);
        int ones = mint.spend(account, coin, 1, nonceFor(1, signature, 15));
        int zeros = mint.spend(account, coin, 1, nonceFor(1, signature, 0));
        List<long[]> parts = new ArrayList<>();
        for (int j = 0; j < 4; j++) {
            long[] part = new long[6];
            for (int i = 0; i < 3; i++) {
                part[i] = mint.number(ones, 4 + 3 * j + i);
                part[3 + i] = mint.number(zeros, 4 + 3 * j + i);
            }
            parts.add(part);
        }
        return parts;
    }

    /** Tampers with a payment until it has these numbers. */
    static void write(BlindMint mint, int p, long[] numbers) {
        for (int i = 0; i < numbers.length; i++) {
            long now = mint.number(p, i);
            if (now != numbers[i]) {
                mint.tamper(p, i, now ^ numbers[i]);
            }
        }
    }

    /** A nonce for the merchant with which c of this signature has these four lowest bits. */
    static int nonceFor(int merchant, long signature, long bits) {
        for (int nonce = 0; nonce < 100000; nonce++) {
            if ((hash(merchant, nonce, signature) & 15) == bits) {
                return nonce;
            }
        }
        throw new AssertionError("no nonce found");
    }

    private static BigInteger unsigned(long v) {
        return BigInteger.valueOf(v).mod(TWO_64);
    }

    private static long stateAfter(long... values) {
        BigInteger h = BigInteger.valueOf(7);
        for (long v : values) {
            h = h.xor(unsigned(v)).multiply(FACTOR).add(ADDEND).mod(TWO_64);
            h = h.xor(h.shiftRight(29));
        }
        return h.longValue();
    }

    /** What was h xor v before a step that ended in this state. */
    private static long before(long state) {
        long mixed = state ^ (state >>> 29) ^ (state >>> 58);
        return unsigned(mixed).subtract(ADDEND).multiply(FACTOR.modInverse(TWO_64)).mod(TWO_64).longValue();
    }
}
