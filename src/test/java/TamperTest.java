/** Promise 5: tamper. */
public final class TamperTest {
    private static final Check CHECK = new Check();
    private static final long[] MASKS = {0, 1, -1, Long.MIN_VALUE, Long.MAX_VALUE, 1L << 32, 0x123456789abcdefL};

    public static void main(String[] args) {
        CHECK.each(
                TamperTest::becomesItselfXorMask,
                TamperTest::staysApartFromTheCoin,
                TamperTest::noSuchPayment,
                TamperTest::noPaymentsAtAll,
                TamperTest::lastPayment,
                TamperTest::noSuchNumber);
        CHECK.finish();
    }

    private static BlindMint withPayments(int payments) {
        BlindMint mint = new BlindMint();
        mint.withdraw(0, 2, 31, 0);
        for (int p = 0; p < payments; p++) {
            mint.spend(0, 0, 5, 6 + p);
        }
        return mint;
    }

    /** "Number i of payment p becomes itself xor mask: the new one." All 64 bits of the mask count. */
    private static void becomesItselfXorMask() {
        for (int i = 0; i < 16; i++) {
            for (long mask : MASKS) {
                becomes(i, mask);
            }
        }
    }

    private static void becomes(int i, long mask) {
        long before = withPayments(2).number(1, i);
        String what = "tamper(1, " + i + ", " + mask + ")";
        CHECK.due(what, withPayments(2).tamper(1, i, mask), before ^ mask);
        BlindMint mint = withPayments(2);
        mint.tamper(1, i, mask);
        for (int k = 0; k < 16; k++) {
            long due = withPayments(2).number(1, k) ^ (k == i ? mask : 0);
            CHECK.due("number(1, " + k + ") after " + what, mint.number(1, k), due);
            CHECK.due("number(0, " + k + ") after " + what, mint.number(0, k), withPayments(2).number(0, k));
        }
        CHECK.due(what + " again", mint.tamper(1, i, mask), before);
        CHECK.due("good after that", mint.good(1), true);
    }

    /** A tampered payment changes neither the coin in the wallet nor a payment that is made later. */
    private static void staysApartFromTheCoin() {
        BlindMint mint = withPayments(2);
        for (int i = 0; i < 16; i++) {
            mint.tamper(0, i, -1);
        }
        mint.spend(0, 0, 5, 6);
        BlindMint untouched = withPayments(2);
        for (int i = 0; i < 16; i++) {
            CHECK.due("number(2, " + i + ") of a later payment", mint.number(2, i), untouched.number(0, i));
        }
        CHECK.due("the coin of a tampered payment", mint.coin(0, 0), untouched.coin(0, 0));
        CHECK.due("the signature of a tampered payment's coin", mint.signature(0, 0), untouched.signature(0, 0));
    }

    /** "IllegalArgumentException, when there is no such payment": of two payments 0 and 1 are there. */
    private static void noSuchPayment() {
        for (int odd : new int[] {-1, 2, 19, 20, Integer.MIN_VALUE, Integer.MAX_VALUE}) {
            CHECK.refusedUnchanged("tamper(" + odd + ", 0, 1)", Check.ARGUMENT, () -> withPayments(2),
                    mint -> mint.tamper(odd, 0, 1));
        }
        CHECK.due("tamper(0, 0, 1)", withPayments(2).tamper(0, 0, 1), 3L);
        CHECK.due("tamper(1, 0, 1)", withPayments(2).tamper(1, 0, 1), 3L);
    }

    /** The same words, for an object without payments. */
    private static void noPaymentsAtAll() {
        for (int i : new int[] {-1, 0, 15, 16}) {
            CHECK.refusedUnchanged("tamper(0, " + i + ", 1)", Check.ARGUMENT, () -> withPayments(0),
                    mint -> mint.tamper(0, i, 1));
        }
    }

    /** The same words, for the last payment and the one behind it, up to the twentieth. */
    private static void lastPayment() {
        for (int n : new int[] {1, 19, 20}) {
            long last = 6 + n - 1;
            CHECK.due("tamper with the last of " + n, withPayments(n).tamper(n - 1, 3, -1), ~last);
            CHECK.refusedUnchanged("tamper with the payment behind " + n, Check.ARGUMENT, () -> withPayments(n),
                    mint -> mint.tamper(n, 3, 1));
        }
    }

    /** "no such payment or number": 0 .. 15 are there. */
    private static void noSuchNumber() {
        for (int odd : new int[] {-1, 16, 17, Integer.MIN_VALUE, Integer.MAX_VALUE}) {
            CHECK.refusedUnchanged("tamper(0, " + odd + ", 1)", Check.ARGUMENT, () -> withPayments(2),
                    mint -> mint.tamper(0, odd, 1));
        }
        CHECK.due("tamper(1, 0, 0)", withPayments(2).tamper(1, 0, 0), 2L);
        CHECK.due("tamper(1, 15, 0)", withPayments(2).tamper(1, 15, 0), withPayments(2).number(1, 15));
    }
}
