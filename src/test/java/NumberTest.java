/** Promise 6: number. */
public final class NumberTest {
    private static final Check CHECK = new Check();

    public static void main(String[] args) {
        CHECK.each(
                NumberTest::numberOfPayment,
                NumberTest::noSuchPayment,
                NumberTest::noPaymentsAtAll,
                NumberTest::lastPayment,
                NumberTest::noSuchNumber);
        CHECK.finish();
    }

    private static BlindMint withPayments(int payments) {
        BlindMint mint = new BlindMint();
        mint.withdraw(1, 1, 32, 0);
        for (int p = 0; p < payments; p++) {
            mint.spend(1, 0, 70 + p, -1 - p);
        }
        return mint;
    }

    /** "Number i of payment p.", each of the sixteen of each of twenty, and as it is after tampering. */
    private static void numberOfPayment() {
        for (int from = 0; from < 20; from += 10) {
            BlindMint mint = withPayments(20);
            for (int p = from; p < from + 10; p++) {
                long[] head = {1, mint.signature(1, 0), 70 + p, -1 - p};
                for (int i = 0; i < 4; i++) {
                    CHECK.due("number(" + p + ", " + i + ")", mint.number(p, i), head[i]);
                }
            }
        }
        CHECK.due("what number changes", Check.changes(() -> withPayments(2), x -> x.number(1, 15)).size(), 0);
        BlindMint mint = withPayments(2);
        long last = mint.number(1, 15);
        mint.tamper(1, 15, -1);
        CHECK.due("number(1, 15) after tampering", mint.number(1, 15), ~last);
    }

    private static void none(BlindMint mint, int p, int i) {
        CHECK.refused("number(" + p + ", " + i + ")", Check.NO_ELEMENT, () -> mint.number(p, i));
    }

    /** "NoSuchElementException, when there is none": of two payments 0 and 1 are there. */
    private static void noSuchPayment() {
        for (int odd : new int[] {-1, 2, 19, 20, Integer.MIN_VALUE, Integer.MAX_VALUE}) {
            CHECK.refusedUnchanged("number(" + odd + ", 0)", Check.NO_ELEMENT, () -> withPayments(2),
                    mint -> mint.number(odd, 0));
        }
        CHECK.due("number(0, 2)", withPayments(2).number(0, 2), 70L);
        CHECK.due("number(1, 2)", withPayments(2).number(1, 2), 71L);
    }

    /** The same words, for an object without payments. */
    private static void noPaymentsAtAll() {
        for (int i : new int[] {-1, 0, 15, 16}) {
            none(new BlindMint(), 0, i);
            none(withPayments(0), 0, i);
        }
    }

    /** The same words, for the last payment and the one behind it, up to the twentieth. */
    private static void lastPayment() {
        for (int n : new int[] {1, 19, 20}) {
            CHECK.due("the merchant of the last of " + n, withPayments(n).number(n - 1, 2), 70L + n - 1);
            none(withPayments(n), n, 2);
        }
    }

    /** The same words, for a number: 0 .. 15 are there. */
    private static void noSuchNumber() {
        for (int odd : new int[] {-1, 16, 17, Integer.MIN_VALUE, Integer.MAX_VALUE}) {
            CHECK.refusedUnchanged("number(0, " + odd + ")", Check.NO_ELEMENT, () -> withPayments(2),
                    mint -> mint.number(0, odd));
        }
        BlindMint mint = withPayments(1);
        long[] last = Forger.parts(Forger.candidates(32, 1, 0)).get(3);
        long c = Forger.hash(70, -1, mint.signature(1, 0));
        CHECK.due("number(0, 0)", mint.number(0, 0), 1L);
        CHECK.due("number(0, 15)", mint.number(0, 15), last[(c >> 3 & 1) == 1 ? 2 : 5]);
    }
}
