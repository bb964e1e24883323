/** Promise 7: good. */
public final class GoodTest {
    private static final Check CHECK = new Check();
    private static final long[] HASHES = {11, 2000, 300000, 1L << 50};
    private static final long[] VS = {1, 22, -333, Long.MIN_VALUE};

    public static void main(String[] args) {
        CHECK.each(
                GoodTest::realPayments,
                GoodTest::noPayment,
                GoodTest::noPaymentsAtAll,
                GoodTest::lastPayment,
                GoodTest::flippedBits,
                GoodTest::otherMerchantsAndNonces,
                GoodTest::denominations,
                GoodTest::signatureBelowZero,
                GoodTest::signatureBelowTheModulus,
                GoodTest::otherSignatures,
                GoodTest::signatureOfZeroAndOfFactors,
                GoodTest::noneLessThanTheOneBefore,
                GoodTest::leastAndGreatestPairHashes,
                GoodTest::toldForTheOtherBit,
                GoodTest::numbersOfAllSizes,
                GoodTest::otherNumbersOfTheSameHash);
        CHECK.finish();
    }

    private static BlindMint onePayment(int denomination) {
        BlindMint mint = new BlindMint();
        mint.withdraw(0, denomination, 4, 0);
        mint.spend(0, 0, 8, 9);
        return mint;
    }

    private static void isGood(String what, long[] numbers, boolean due) {
        BlindMint mint = onePayment(0);
        Forger.write(mint, 0, numbers);
        CHECK.due("good with " + what, mint.good(0), due);
        CHECK.due("good again with " + what, mint.good(0), due);
    }

    /** "Whether payment p is good"; that of a coin in a wallet is, before its deposit and after it. */
    private static void realPayments() {
        for (int d = 0; d < 3; d++) {
            BlindMint mint = new BlindMint();
            for (int i = 0; i < 5; i++) {
                mint.withdraw(i % 4, d, 70 + i, 0);
                mint.spend(i % 4, i / 4, i, -i);
                CHECK.due("good of a payment of denomination " + d, mint.good(i), true);
            }
            mint.deposit(0, 0);
            CHECK.due("good of a payment that was deposited", mint.good(0), true);
        }
        CHECK.due("what good changes", Check.changes(() -> onePayment(1), x -> x.good(0)).size(), 0);
    }

    /** "false also when there is none" */
    private static void noPayment() {
        BlindMint mint = onePayment(1);
        for (int odd : new int[] {-1, 1, 19, 20, Integer.MIN_VALUE, Integer.MAX_VALUE}) {
            CHECK.due("good(" + odd + ")", mint.good(odd), false);
        }
    }

    /** The same words, for an object without payments. */
    private static void noPaymentsAtAll() {
        for (int p : new int[] {-1, 0, 1, 19, 20}) {
            CHECK.due("good(" + p + ") of a new object", new BlindMint().good(p), false);
        }
    }

    /** The same words, for the last payment and the one behind it, up to the twentieth. */
    private static void lastPayment() {
        BlindMint mint = onePayment(0);
        for (int n = 1; n <= 20; n++) {
            CHECK.due("good of the last of " + n, mint.good(n - 1), true);
            CHECK.due("good of the payment behind " + n, mint.good(n), false);
            Check.outcome(() -> mint.spend(0, 0, 8, 9));
        }
    }

    /** "A payment is GOOD when": no single bit of the denomination, the signature or a part can be changed. */
    private static void flippedBits() {
        for (int i = 0; i < 16; i++) {
            if (i == 2 || i == 3) {
                continue;
            }
            BlindMint mint = onePayment(2);
            for (int bit = 0; bit < 64; bit++) {
                mint.tamper(0, i, 1L << bit);
                CHECK.due("good with bit " + bit + " of number " + i + " flipped", mint.good(0), false);
                mint.tamper(0, i, 1L << bit);
            }
            CHECK.due("good with number " + i + " as it was", mint.good(0), true);
        }
    }

    /** "with c as above": merchant and nonce count by its four lowest bits alone, and may have 64 bits. */
    private static void otherMerchantsAndNonces() {
        int good = 0;
        for (int i = 2; i < 4; i++) {
            BlindMint mint = onePayment(1);
            long signature = mint.number(0, 1);
            long bits = Forger.hash(8, 9, signature) & 15;
            for (int k = 0; k < 100; k++) {
                long other = mint.tamper(0, i, 0x9e3779b97f4a7c15L * (k + 1));
                long c = i == 2 ? Forger.hash(other, 9, signature) : Forger.hash(8, other, signature);
                boolean due = (c & 15) == bits;
                good += due ? 1 : 0;
                CHECK.due("good with number " + i + " being " + other, mint.good(0), due);
            }
        }
        CHECK.due("some of them were good", good > 0, true);
    }

    /** "its denomination is 0, 1 or 2": all 64 bits of it count. */
    private static void denominations() {
        for (int d = 0; d < 3; d++) {
            isGood("denomination " + d, Forger.payment(d, HASHES, 1, 2, VS), true);
        }
        for (long odd : new long[] {-1, 3, 4, 1L << 32, 1L << 32 | 1, Long.MIN_VALUE, Long.MAX_VALUE}) {
            for (int d = 0; d < 3; d++) {
                long signature = Forger.sign(Forger.coinNumber(odd, HASHES), d);
                isGood("denomination " + odd, Forger.payment(odd, signature, HASHES, 1, 2, VS), false);
            }
        }
        long signature = Forger.sign(Forger.coinNumber(0, HASHES), 0);
        isGood("another denomination's signature", Forger.payment(1, signature, HASHES, 1, 2, VS), false);
    }

    /** "its signature is not below 0": 0 itself is good, and what is just below 0 is not, though its power is right. */
    private static void signatureBelowZero() {
        for (int d = 0; d < 3; d++) {
            long[] zero = hashesFor(d, 0);
            isGood("signature 0", Forger.payment(d, 0, zero, 1, 2, VS), true);
            long modulus = Forger.modulus(d).longValueExact();
            isGood("minus the modulus for 0", Forger.payment(d, -modulus, zero, 1, 2, VS), false);
            long greatest = greatestSignature(d);
            long[] hashes = hashesFor(d, Forger.raise(greatest, d));
            isGood("what is just below 0", Forger.payment(d, greatest - modulus, hashes, 1, 2, VS), false);
        }
    }

    /** "and is below the modulus": just below it is good, the modulus for 0 and one more for 1 are not. */
    private static void signatureBelowTheModulus() {
        for (int d = 0; d < 3; d++) {
            long modulus = Forger.modulus(d).longValueExact();
            long greatest = greatestSignature(d);
            CHECK.due("the greatest signature is just below the modulus", modulus - greatest < 30, true);
            long[] hashes = hashesFor(d, Forger.raise(greatest, d));
            isGood("the greatest signature", Forger.payment(d, greatest, hashes, 1, 2, VS), true);
            isGood("the modulus for 0", Forger.payment(d, modulus, hashesFor(d, 0), 1, 2, VS), false);
            isGood("the modulus and 1 for 1", Forger.payment(d, modulus + 1, hashesFor(d, 1), 1, 2, VS), false);
            for (long more = greatest + modulus; more > 0; more += modulus) {
                isGood("a signature far above the modulus", Forger.payment(d, more, hashes, 1, 2, VS), false);
            }
        }
    }

    /** The greatest number below the modulus whose power can be a hash. */
    private static long greatestSignature(int denomination) {
        long s = Forger.modulus(denomination).longValueExact() - 1;
        while (Forger.raise(s, denomination) >= 1L << 59) {
            s--;
        }
        return s;
    }

    /** "and the signature is that of HASH(denomination, P_0, .., P_3)": no number beside it is. */
    private static void otherSignatures() {
        for (int d = 0; d < 3; d++) {
            long modulus = Forger.modulus(d).longValueExact();
            long signature = Forger.sign(Forger.coinNumber(d, HASHES), d);
            isGood("the signature", Forger.payment(d, signature, HASHES, 1, 2, VS), true);
            for (long odd : new long[] {signature + modulus, signature - modulus, modulus - signature, -signature,
                signature + 1, signature - 1, signature + Forger.P[d], signature - Forger.Q[d], 0, 1, modulus, -1,
                Long.MIN_VALUE, Long.MAX_VALUE}) {
                isGood("signature " + odd, Forger.payment(d, odd, HASHES, 1, 2, VS), false);
            }
        }
    }

    /** "(there is just one)": also of 0, of 1, and of what has a factor in common with the modulus. */
    private static void signatureOfZeroAndOfFactors() {
        for (int d = 0; d < 3; d++) {
            for (long multiple : new long[] {0, 1, smallPowerMultiple(Forger.P[d], d),
                smallPowerMultiple(Forger.Q[d], d)}) {
                long[] hashes = hashesFor(d, Forger.raise(multiple, d));
                isGood("signature " + multiple, Forger.payment(d, multiple, hashes, 1, 2, VS), true);
                isGood("signature " + multiple + " of another coin",
                        Forger.payment(d, multiple, HASHES, 1, 2, VS), false);
            }
        }
    }

    /** A multiple of a factor of the modulus whose power can be a hash. */
    private static long smallPowerMultiple(long factor, int denomination) {
        for (long s = factor; s < factor * 1000; s += factor) {
            if (Forger.raise(s, denomination) < 1L << 59) {
                return s;
            }
        }
        throw new AssertionError("no multiple found");
    }

    /** Growing pair hashes that make a coin of the wanted number. */
    private static long[] hashesFor(int denomination, long wanted) {
        for (long third = 3; third < 10000; third++) {
            long fourth = Forger.last(wanted, 0, denomination, 1, 2, third);
            if (fourth >= third && fourth < 1L << 59) {
                return new long[] {1, 2, third, fourth};
            }
        }
        throw new AssertionError("no pair hashes found");
    }

    /** "no P_j is less than the one before": as much is good, one less is not, in each of the three places. */
    private static void noneLessThanTheOneBefore() {
        for (int j = 1; j < 4; j++) {
            for (int step : new int[] {1, 0, -1}) {
                long[] hashes = {1000, 2000, 3000, 4000};
                hashes[j] = hashes[j - 1] + step;
                for (int k = j + 1; k < 4; k++) {
                    hashes[k] = hashes[k - 1] + 1000;
                }
                isGood("P_" + j + " being " + step + " more than the one before",
                        Forger.payment(0, hashes, 1, 2, VS), step >= 0);
            }
        }
        isGood("equal pair hashes", Forger.payment(1, new long[] {5, 5, 5, 5}, 1, 2, VS), true);
        isGood("the last less than the first", Forger.payment(0, new long[] {5, 6, 7, 4}, 1, 2, VS), false);
        isGood("falling pair hashes", Forger.payment(2, new long[] {8, 7, 6, 5}, 1, 2, VS), false);
    }

    /** The same words, for the least pair hash, 0, and the greatest, 2^59 - 1. */
    private static void leastAndGreatestPairHashes() {
        long most = (1L << 59) - 1;
        isGood("pair hashes that are 0", Forger.payment(0, new long[4], 1, 2, VS), true);
        isGood("the greatest pair hashes", Forger.payment(2, new long[] {most, most, most, most}, 1, 2, VS), true);
        isGood("the least, then the greatest", Forger.payment(2, new long[] {0, 0, most, most}, 1, 2, VS), true);
        isGood("the greatest, then the least", Forger.payment(2, new long[] {0, most, most, 0}, 1, 2, VS), false);
        isGood("the greatest, then one less", Forger.payment(2, new long[] {0, 0, most, most - 1}, 1, 2, VS), false);
    }

    /** "as bit j of c is 1 or 0": a part that is told for the other bit is not good. */
    private static void toldForTheOtherBit() {
        BlindMint mint = new BlindMint();
        mint.withdraw(0, 2, 6, 0);
        Forger.learnParts(mint, 0, 0);
        for (int j = 0; j < 4; j++) {
            for (int p = 0; p < 2; p++) {
                long[] masks = new long[3];
                for (int i = 0; i < 3; i++) {
                    masks[i] = mint.number(0, 4 + 3 * j + i) ^ mint.number(1, 4 + 3 * j + i);
                    mint.tamper(p, 4 + 3 * j + i, masks[i]);
                }
                CHECK.due("good of payment " + p + " with part " + j + " of the other", mint.good(p), false);
                for (int i = 0; i < 3; i++) {
                    mint.tamper(p, 4 + 3 * j + i, masks[i]);
                }
                CHECK.due("good of payment " + p + " as it was", mint.good(p), true);
            }
        }
    }

    /** "for the three numbers v, w, z of part j": any numbers of 64 bits, if the hashes are right. */
    private static void numbersOfAllSizes() {
        for (long v : new long[] {0, -1, Long.MIN_VALUE, Long.MAX_VALUE, 1L << 59, (1L << 59) - 1}) {
            for (int bits : new int[] {0, 15, 5, 10}) {
                int nonce = Forger.nonceFor(3, Forger.sign(Forger.coinNumber(1, HASHES), 1), bits);
                isGood("every v being " + v, Forger.payment(1, HASHES, 3, nonce, new long[] {v, v, v, v}), true);
            }
        }
    }

    /** The same: of the numbers that make the same hash, each will do. */
    private static void otherNumbersOfTheSameHash() {
        BlindMint mint = onePayment(1);
        for (int j = 0; j < 4; j++) {
            int at = 4 + 3 * j;
            long v = mint.number(0, at);
            long w = mint.number(0, at + 1);
            mint.tamper(0, at, -1);
            CHECK.due("good with another v of part " + j, mint.good(0), false);
            mint.tamper(0, at + 1, w ^ Forger.otherSecond(v, w, ~v));
            CHECK.due("good with the w for it too", mint.good(0), true);
        }
    }
}
