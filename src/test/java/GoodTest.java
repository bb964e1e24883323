/** Promise 7: good. */
public final class GoodTest {
    private static final Check CHECK = new Check();
    private static final long[] HASHES = {11, 2000, 300000, 1L << 50};
    private static final long[] VS = {1, 22, -333, Long.MIN_VALUE};

    public static void main(String[] args) {
        realPayments();
        noPayment();
        flippedBits();
        otherMerchantsAndNonces();
        denominations();
        signatures();
        orderOfParts();
        otherNumbersOfTheSameHash();
        CHECK.finish();
    }

    private static BlindMint onePayment(int denomination) {
        BlindMint mint = new BlindMint();
        mint.withdraw(0, denomination, 4, 0);
        mint.spend(0, 0, 8, 9);
        return mint;
    }

    private static void isGood(String what, long[] numbers, boolean due) {
        BlindMint mint = onePayment(0);
        Forger.write(mint, 0, numbers);
        CHECK.due("good with " + what, mint.good(0), due);
        CHECK.due("good again with " + what, mint.good(0), due);
    }

    private static void realPayments() {
        for (int d = 0; d < 3; d++) {
            BlindMint mint = new BlindMint();
            for (int i = 0; i < 5; i++) {
                mint.withdraw(i % 4, d, 70 + i, 0);
                mint.spend(i % 4, i / 4, i, -i);
                CHECK.due("good of a payment of denomination " + d, mint.good(i), true);
            }
            mint.deposit(0, 0);
            CHECK.due("good of a payment that was deposited", mint.good(0), true);
        }
    }

    private static void noPayment() {
        BlindMint mint = onePayment(1);
        for (int odd : new int[] {-1, 1, 19, 20, Integer.MIN_VALUE, Integer.MAX_VALUE}) {
            CHECK.due("good(" + odd + ")", mint.good(odd), false);
        }
    }

    /** No single bit of the denomination, the signature or a part can be changed. */
    private static void flippedBits() {
        for (int i = 0; i < 16; i++) {
            if (i == 2 || i == 3) {
                continue;
            }
            BlindMint mint = onePayment(2);
            for (int bit = 0; bit < 64; bit++) {
                mint.tamper(0, i, 1L << bit);
                CHECK.due("good with bit " + bit + " of number " + i + " flipped", mint.good(0), false);
                mint.tamper(0, i, 1L << bit);
            }
            CHECK.due("good with number " + i + " as it was", mint.good(0), true);
        }
    }

    /** They count by the four lowest bits of c alone, and may be any numbers of 64 bits. */
    private static void otherMerchantsAndNonces() {
        int good = 0;
        for (int i = 2; i < 4; i++) {
            BlindMint mint = onePayment(1);
            long signature = mint.number(0, 1);
            long bits = Forger.hash(8, 9, signature) & 15;
            for (int k = 0; k < 100; k++) {
                long other = mint.tamper(0, i, 0x9e3779b97f4a7c15L * (k + 1));
                long c = i == 2 ? Forger.hash(other, 9, signature) : Forger.hash(8, other, signature);
                boolean due = (c & 15) == bits;
                good += due ? 1 : 0;
                CHECK.due("good with number " + i + " being " + other, mint.good(0), due);
            }
        }
        CHECK.due("some of them were good", good > 0, true);
    }

    private static void denominations() {
        for (int d = 0; d < 3; d++) {
            isGood("denomination " + d, Forger.payment(d, HASHES, 1, 2, VS), true);
        }
        for (long odd : new long[] {3, 4, -1, 1L << 32, 1L << 32 | 1, Long.MIN_VALUE, Long.MAX_VALUE}) {
            for (int d = 0; d < 3; d++) {
                long signature = Forger.sign(Forger.coinNumber(odd, HASHES), d);
                isGood("denomination " + odd, Forger.payment(odd, signature, HASHES, 1, 2, VS), false);
            }
        }
        long signature = Forger.sign(Forger.coinNumber(0, HASHES), 0);
        isGood("another denomination's signature", Forger.payment(1, signature, HASHES, 1, 2, VS), false);
    }

    private static void signatures() {
        for (int d = 0; d < 3; d++) {
            long modulus = Forger.modulus(d).longValueExact();
            long signature = Forger.sign(Forger.coinNumber(d, HASHES), d);
            isGood("the signature", Forger.payment(d, signature, HASHES, 1, 2, VS), true);
            for (long odd : new long[] {signature + modulus, signature - modulus, modulus - signature, -signature,
                signature + 1, signature - 1, modulus, -1, Long.MIN_VALUE, Long.MAX_VALUE}) {
                isGood("signature " + odd, Forger.payment(d, odd, HASHES, 1, 2, VS), false);
            }
            for (long multiple : new long[] {0, 1, smallPowerMultiple(Forger.P[d], d),
                smallPowerMultiple(Forger.Q[d], d)}) {
                long[] hashes = hashesFor(d, Forger.raise(multiple, d));
                isGood("signature " + multiple, Forger.payment(d, multiple, hashes, 1, 2, VS), true);
                isGood("signature " + multiple + " of another coin",
                        Forger.payment(d, multiple, HASHES, 1, 2, VS), false);
            }
            long[] zero = hashesFor(d, 0);
            isGood("the modulus for 0", Forger.payment(d, modulus, zero, 1, 2, VS), false);
            isGood("minus the modulus for 0", Forger.payment(d, -modulus, zero, 1, 2, VS), false);
        }
    }

    /** A multiple of a factor of the modulus whose power can be a hash. */
    private static long smallPowerMultiple(long factor, int denomination) {
        for (long s = factor; s < factor * 1000; s += factor) {
            if (Forger.raise(s, denomination) < 1L << 59) {
                return s;
            }
        }
        throw new AssertionError("no multiple found");
    }

    /** Growing pair hashes that make a coin of the wanted number. */
    private static long[] hashesFor(int denomination, long wanted) {
        for (long third = 3; third < 10000; third++) {
            long fourth = Forger.last(wanted, 0, denomination, 1, 2, third);
            if (fourth >= third && fourth < 1L << 59) {
                return new long[] {1, 2, third, fourth};
            }
        }
        throw new AssertionError("no pair hashes found");
    }

    private static void orderOfParts() {
        isGood("pair hashes that are 0", Forger.payment(0, new long[4], 1, 2, VS), true);
        isGood("equal pair hashes", Forger.payment(1, new long[] {5, 5, 5, 5}, 1, 2, VS), true);
        long most = (1L << 59) - 1;
        isGood("the greatest pair hashes", Forger.payment(2, new long[] {0, most, most, most}, 1, 2, VS), true);
        isGood("the first two not in order", Forger.payment(0, new long[] {6, 5, 7, 8}, 1, 2, VS), false);
        isGood("the middle two not in order", Forger.payment(0, new long[] {5, 7, 6, 8}, 1, 2, VS), false);
        isGood("the last two not in order", Forger.payment(0, new long[] {5, 6, 8, 7}, 1, 2, VS), false);
        isGood("the last less than the first", Forger.payment(0, new long[] {5, 6, 7, 4}, 1, 2, VS), false);
    }

    private static void otherNumbersOfTheSameHash() {
        BlindMint mint = onePayment(1);
        for (int j = 0; j < 4; j++) {
            int at = 4 + 3 * j;
            long v = mint.number(0, at);
            long w = mint.number(0, at + 1);
            mint.tamper(0, at, -1);
            CHECK.due("good with another v of part " + j, mint.good(0), false);
            mint.tamper(0, at + 1, w ^ Forger.otherSecond(v, w, ~v));
            CHECK.due("good with the w for it too", mint.good(0), true);
        }
    }
}
