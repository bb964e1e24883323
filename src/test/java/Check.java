import java.util.Arrays;
import java.util.NoSuchElementException;
import java.util.Set;
import java.util.TreeSet;

/** Counts and prints the answers that are not due; every test of the project ends with its finish. */
final class Check {
    static final Class<? extends RuntimeException> ARGUMENT = IllegalArgumentException.class;
    static final Class<? extends RuntimeException> STATE = IllegalStateException.class;
    static final Class<? extends RuntimeException> NO_ELEMENT = NoSuchElementException.class;
    /** Just outside 0 .. 3 on either side, and as far outside as an int goes. */
    static final int[] NO_ACCOUNTS = {-1, 4, Integer.MIN_VALUE, Integer.MAX_VALUE};

    /** More than eight coins of 20 make. */
    private static final int MOST_CHOSEN = 165;

    interface Call {
        Object answer();
    }

    interface CallOn {
        Object answer(BlindMint mint);
    }

    /** Makes a new object and brings it to where a test begins: the same each time. */
    interface Scene {
        BlindMint make();
    }

    private int wrong = 0;

    void due(String what, Object got, Object want) {
        if (!got.equals(want)) {
            wrong++;
            System.out.println(what + " answered " + got + ", due is " + want);
        }
    }

    /** The call throws just that class. */
    void refused(String what, Class<? extends RuntimeException> want, Call call) {
        due(what, outcome(call), "throws." + want.getSimpleName());
    }

    /** The call throws just that class, and the object is as one on which it was not made. */
    void refusedUnchanged(String what, Class<? extends RuntimeException> want, Scene scene, CallOn call) {
        refusedChanging(what, want, scene, call);
    }

    /** The call throws just that class, and changes these answers ("question: answer") and no other. */
    void refusedChanging(String what, Class<? extends RuntimeException> want, Scene scene, CallOn call,
            String... changed) {
        BlindMint mint = scene.make();
        refused(what, want, () -> call.answer(mint));
        due("what changes with " + what, changes(scene, call), new TreeSet<>(Arrays.asList(changed)));
    }

    /** Makes each of the tests, also behind one that ended because a call threw what is not due. */
    void each(Runnable... tests) {
        for (Runnable test : tests) {
            try {
                test.run();
            } catch (RuntimeException e) {
                wrong++;
                System.out.println("a call threw " + e + ", which is not due: " + Arrays.toString(e.getStackTrace()));
            }
        }
    }

    void finish() {
        System.out.println(wrong == 0 ? "all answers are as due" : wrong + " answers are not as due");
        if (wrong != 0) {
            System.exit(1);
        }
    }

    static String outcome(Call call) {
        try {
            return String.valueOf(call.answer());
        } catch (RuntimeException e) {
            return "throws." + e.getClass().getSimpleName();
        }
    }

    /** The questions that are answered otherwise after the call, with these answers. */
    static Set<String> changes(Scene scene, CallOn call) {
        Set<String> changes = state(() -> {
            BlindMint mint = scene.make();
            outcome(() -> call.answer(mint));
            return mint;
        });
        changes.removeAll(state(scene));
        return changes;
    }

    /**
     * All that the questions tell of an object, each as "question: answer". No object answers more than 200 of
     * them, for nothing is promised behind its 512th call.
     */
    static Set<String> state(Scene scene) {
        Set<String> answers = new TreeSet<>();
        for (int a = 0; a < 4; a++) {
            askAccount(answers, scene.make(), a);
        }
        askPayments(answers, scene.make(), 0, 10);
        askPayments(answers, scene.make(), 10, 20);
        BlindMint mint = scene.make();
        ask(answers, "traced()", mint::traced);
        ask(answers, "blinded()", mint::blinded);
        for (int what = 0; what < 4; what++) {
            int which = what;
            ask(answers, "count(" + what + ")", () -> mint.count(which));
        }
        return answers;
    }

    /** What can be chosen tells which coins were spent. */
    private static void askAccount(Set<String> answers, BlindMint mint, int a) {
        ask(answers, "balance(" + a + ")", () -> mint.balance(a));
        ask(answers, "coins(" + a + ")", () -> mint.coins(a));
        for (int i = 0; i < 8; i++) {
            int coin = i;
            ask(answers, "coin(" + a + ", " + i + ")", () -> mint.coin(a, coin));
            ask(answers, "signature(" + a + ", " + i + ")", () -> mint.signature(a, coin));
        }
        for (int k = 1; k <= MOST_CHOSEN; k++) {
            int amount = k;
            ask(answers, "choose(" + a + ", " + k + ")", () -> mint.choose(a, amount));
        }
    }

    private static void askPayments(Set<String> answers, BlindMint mint, int from, int to) {
        for (int k = from; k < to; k++) {
            int p = k;
            ask(answers, "good(" + p + ")", () -> mint.good(p));
            for (int i = 0; i < 16; i++) {
                int number = i;
                ask(answers, "number(" + p + ", " + i + ")", () -> mint.number(p, number));
            }
        }
    }

    private static void ask(Set<String> answers, String question, Call call) {
        answers.add(question + ": " + outcome(call));
    }
}
