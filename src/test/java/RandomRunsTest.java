/** Runs of 512 drawn calls, answered as the reference answers them. */
public final class RandomRunsTest {
    private static final int RUNS = 300;

    public static void main(String[] args) {
        Check check = new Check();
        for (int seed = 0; seed < RUNS; seed++) {
            new RandomRun(check, seed).make();
        }
        check.finish();
    }
}
