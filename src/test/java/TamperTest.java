/** Promises 5 and 6: tamper and number. */
public final class TamperTest {
    private static final Check CHECK = new Check();
    private static final int[] ODD_PAYMENTS = {-1, 2, 19, 20, Integer.MIN_VALUE, Integer.MAX_VALUE};
    private static final int[] ODD_NUMBERS = {-1, 16, 17, Integer.MIN_VALUE, Integer.MAX_VALUE};

    public static void main(String[] args) {
        everyNumber();
        whatStaysApart();
        wrongInputs();
        CHECK.finish();
    }

    private static BlindMint twoPayments() {
        BlindMint mint = new BlindMint();
        mint.withdraw(0, 2, 31, 0);
        mint.spend(0, 0, 5, 6);
        mint.spend(0, 0, 5, 7);
        return mint;
    }

    private static void everyNumber() {
        for (int changed = 0; changed < 16; changed++) {
            for (long mask : new long[] {0, 1, -1, Long.MIN_VALUE, Long.MAX_VALUE, 0x123456789abcdefL}) {
                oneNumber(changed, mask);
            }
        }
    }

    private static void oneNumber(int changed, long mask) {
        BlindMint mint = twoPayments();
        BlindMint untouched = twoPayments();
        long due = untouched.number(1, changed) ^ mask;
        String what = "tamper(1, " + changed + ", " + mask + ")";
        CHECK.due(what, mint.tamper(1, changed, mask), due);
        for (int i = 0; i < 16; i++) {
            long number = i == changed ? due : untouched.number(1, i);
            CHECK.due("number(1, " + i + ") after " + what, mint.number(1, i), number);
            CHECK.due("number(0, " + i + ") after " + what, mint.number(0, i), untouched.number(0, i));
        }
        CHECK.due(what + " again", mint.tamper(1, changed, mask), untouched.number(1, changed));
        CHECK.due("the state after " + what + " twice", Check.state(mint), Check.state(untouched));
    }

    /** A tampered payment changes neither the coin in the wallet nor a payment that is made later. */
    private static void whatStaysApart() {
        BlindMint mint = twoPayments();
        for (int i = 0; i < 16; i++) {
            mint.tamper(0, i, -1);
        }
        mint.spend(0, 0, 5, 6);
        BlindMint untouched = twoPayments();
        for (int i = 0; i < 16; i++) {
            CHECK.due("number(2, " + i + ") of a later payment", mint.number(2, i), untouched.number(0, i));
        }
        CHECK.due("the coin of a tampered payment", mint.coin(0, 0), untouched.coin(0, 0));
        CHECK.due("the signature of a tampered payment's coin", mint.signature(0, 0), untouched.signature(0, 0));
    }

    private static void wrongInputs() {
        for (int odd : ODD_PAYMENTS) {
            CHECK.refusedUnchanged("tamper(" + odd + ", 0, 1)", Check.ARGUMENT, TamperTest::twoPayments,
                    mint -> mint.tamper(odd, 0, 1));
            CHECK.refusedUnchanged("number(" + odd + ", 0)", Check.NO_ELEMENT, TamperTest::twoPayments,
                    mint -> mint.number(odd, 0));
        }
        for (int odd : ODD_NUMBERS) {
            CHECK.refusedUnchanged("tamper(0, " + odd + ", 1)", Check.ARGUMENT, TamperTest::twoPayments,
                    mint -> mint.tamper(0, odd, 1));
            CHECK.refusedUnchanged("number(0, " + odd + ")", Check.NO_ELEMENT, TamperTest::twoPayments,
                    mint -> mint.number(0, odd));
        }
    }
}
