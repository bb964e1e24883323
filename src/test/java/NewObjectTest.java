/** Promise 1: 100 on each account, empty wallets, no payments; and no object knows of another. */
public final class NewObjectTest {
    public static void main(String[] args) {
        Check check = new Check();
        isNew(check, "the first object", new BlindMint());
        BlindMint used = new BlindMint();
        used.withdraw(1, 2, 5, 0);
        used.spend(1, 0, 3, 4);
        used.deposit(0, 2);
        isNew(check, "an object made after another was used", new BlindMint());
        check.finish();
    }

    private static void isNew(Check check, String which, BlindMint mint) {
        for (int a = 0; a < 4; a++) {
            int account = a;
            check.due(which + ": balance(" + a + ")", mint.balance(a), 100);
            check.due(which + ": coins(" + a + ")", mint.coins(a), 0);
            check.refused(which + ": coin(" + a + ", 0)", Check.NO_ELEMENT, () -> mint.coin(account, 0));
            check.refused(which + ": signature(" + a + ", 0)", Check.NO_ELEMENT, () -> mint.signature(account, 0));
            check.refused(which + ": choose(" + a + ", 1)", Check.NO_ELEMENT, () -> mint.choose(account, 1));
            check.refused(which + ": spend(" + a + ", 0, 1, 1)", Check.ARGUMENT, () -> mint.spend(account, 0, 1, 1));
        }
        check.due(which + ": good(0)", mint.good(0), false);
        check.refused(which + ": number(0, 0)", Check.NO_ELEMENT, () -> mint.number(0, 0));
        check.refused(which + ": tamper(0, 0, 1)", Check.ARGUMENT, () -> mint.tamper(0, 0, 1));
        check.refused(which + ": deposit(0, 0)", Check.ARGUMENT, () -> mint.deposit(0, 0));
        check.due(which + ": traced()", mint.traced(), -1);
        check.due(which + ": blinded()", mint.blinded(), -1L);
        for (int what = 0; what < 4; what++) {
            check.due(which + ": count(" + what + ")", mint.count(what), 0);
        }
    }
}
