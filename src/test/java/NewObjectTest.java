/** Promise 1: a new object. */
public final class NewObjectTest {
    private static final Check CHECK = new Check();

    public static void main(String[] args) {
        CHECK.each(
                NewObjectTest::hundredOnEachAccount,
                NewObjectTest::emptyWallets,
                NewObjectTest::noPayments,
                NewObjectTest::nothingCounted);
        CHECK.finish();
    }

    /** A new object, made while another is in use: no object knows of another. */
    private static BlindMint made() {
        BlindMint used = new BlindMint();
        used.withdraw(1, 2, 5, 0);
        used.spend(1, 0, 3, 4);
        used.deposit(0, 2);
        Check.outcome(() -> used.deposit(0, 2));
        BlindMint mint = new BlindMint();
        used.withdraw(0, 1, 6, 0);
        used.spend(0, 0, 3, 4);
        CHECK.due("what the used object has left", used.balance(1), 80);
        return mint;
    }

    /** "100 on each account" */
    private static void hundredOnEachAccount() {
        BlindMint mint = made();
        for (int a = 0; a < 4; a++) {
            CHECK.due("balance(" + a + ")", mint.balance(a), 100);
        }
    }

    /** "empty wallets" */
    private static void emptyWallets() {
        BlindMint mint = made();
        for (int a = 0; a < 4; a++) {
            int account = a;
            CHECK.due("coins(" + a + ")", mint.coins(a), 0);
            CHECK.refused("coin(" + a + ", 0)", Check.NO_ELEMENT, () -> mint.coin(account, 0));
            CHECK.refused("signature(" + a + ", 0)", Check.NO_ELEMENT, () -> mint.signature(account, 0));
            CHECK.refused("choose(" + a + ", 1)", Check.NO_ELEMENT, () -> mint.choose(account, 1));
            CHECK.refused("spend(" + a + ", 0, 1, 1)", Check.ARGUMENT, () -> mint.spend(account, 0, 1, 1));
        }
    }

    /** "no payments" */
    private static void noPayments() {
        BlindMint mint = made();
        for (int k = 0; k < 20; k++) {
            int p = k;
            CHECK.due("good(" + p + ")", mint.good(p), false);
            CHECK.refused("number(" + p + ", 0)", Check.NO_ELEMENT, () -> mint.number(p, 0));
            CHECK.refused("tamper(" + p + ", 0, 1)", Check.ARGUMENT, () -> mint.tamper(p, 0, 1));
            CHECK.refused("deposit(" + p + ", 0)", Check.ARGUMENT, () -> mint.deposit(p, 0));
        }
    }

    private static void nothingCounted() {
        BlindMint mint = made();
        CHECK.due("traced()", mint.traced(), BlindMint.NONE);
        CHECK.due("blinded()", mint.blinded(), -1L);
        for (int what = 0; what < 4; what++) {
            CHECK.due("count(" + what + ")", mint.count(what), 0);
        }
    }
}
