import java.util.NoSuchElementException;

/** Counts and prints the answers that are not due; every test of the project ends with its finish. */
final class Check {
    static final Class<? extends RuntimeException> ARGUMENT = IllegalArgumentException.class;
    static final Class<? extends RuntimeException> STATE = IllegalStateException.class;
    static final Class<? extends RuntimeException> NO_ELEMENT = NoSuchElementException.class;

    interface Call {
        Object answer();
    }

    interface CallOn {
        Object answer(BlindMint mint);
    }

    /** Makes a new object and brings it to where a test begins: the same each time. */
    interface Scene {
        BlindMint make();
    }

    private int wrong = 0;

    void due(String what, Object got, Object want) {
        if (!got.equals(want)) {
            wrong++;
            System.out.println(what + " answered " + got + ", due is " + want);
        }
    }

    /** The call throws just that class. */
    void refused(String what, Class<? extends RuntimeException> want, Call call) {
        due(what, outcome(call), "throws." + want.getSimpleName());
    }

    /** The call throws just that class, and the object is as one on which it was not made. */
    void refusedUnchanged(String what, Class<? extends RuntimeException> want, Scene scene, CallOn call) {
        BlindMint mint = scene.make();
        refused(what, want, () -> call.answer(mint));
        due("the state after " + what, state(mint), state(scene.make()));
    }

    void finish() {
        System.out.println(wrong == 0 ? "all answers are as due" : wrong + " answers are not as due");
        if (wrong != 0) {
            System.exit(1);
        }
    }

    static String outcome(Call call) {
        try {
            return String.valueOf(call.answer());
        } catch (RuntimeException e) {
            return "throws." + e.getClass().getSimpleName();
        }
    }

    /** All that the questions tell of an object, as one text; some 400 calls at the most. */
    static String state(BlindMint mint) {
        StringBuilder text = new StringBuilder();
        for (int a = 0; a < 4; a++) {
            text.append(" account ").append(mint.balance(a));
            for (int i = 0; i < mint.coins(a); i++) {
                text.append(" coin ").append(mint.coin(a, i)).append(' ').append(mint.signature(a, i));
            }
            int account = a;
            for (int amount : new int[] {1, 5, 20}) {
                text.append(' ').append(outcome(() -> mint.choose(account, amount)));
            }
        }
        for (int p = 0; p < 20 && hasPayment(mint, p); p++) {
            text.append(" payment ").append(mint.good(p));
            for (int i = 0; i < 16; i++) {
                text.append(' ').append(mint.number(p, i));
            }
        }
        text.append(" traced ").append(mint.traced()).append(" blinded ").append(mint.blinded());
        for (int what = 0; what < 4; what++) {
            text.append(" count ").append(mint.count(what));
        }
        return text.toString();
    }

    private static boolean hasPayment(BlindMint mint, int p) {
        return !outcome(() -> mint.number(p, 0)).startsWith("throws.");
    }
}
