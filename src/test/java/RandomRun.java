import java.util.Random;

/** A run of drawn calls, edges and wrong inputs among them, answered as the reference answers them. */
final class RandomRun {
    /** "An object is used for at most 512 calls after it has been made": the last of them is answered too. */
    private static final int CALLS = 512;

    private final Check check;
    private final String run;
    private final Random random;
    private final BlindMint mint = new BlindMint();
    private final Reference reference = new Reference();
    private int calls = 0;

    RandomRun(Check check, int seed) {
        this.check = check;
        run = "run " + seed;
        random = new Random(seed);
    }

    void make() {
        while (calls < CALLS) {
            step();
        }
    }

    private void same(String what, Check.Call ours, Check.Call theirs) {
        if (calls == CALLS) {
            return;
        }
        calls++;
        check.due(run + ", call " + calls + ": " + what, Check.outcome(ours), Check.outcome(theirs));
    }

    private int near(int bound) {
        return random.nextInt(25) == 0 ? oddInt() : random.nextInt(bound);
    }

    private int oddInt() {
        int[] odd = {-1, 4, 3, 8, 16, 20, 63, 64, -2, Integer.MIN_VALUE, Integer.MAX_VALUE};
        return odd[random.nextInt(odd.length)];
    }

    private void step() {
        switch (random.nextInt(12)) {
            case 0: case 1:
                withdraw();
                break;
            case 2: case 3:
                spend();
                break;
            case 4: case 5: case 6:
                deposit();
                break;
            case 7:
                tamper();
                break;
            case 8:
                swapNonce();
                break;
            case 9:
                choose();
                break;
            default:
                ask();
        }
    }

    private void withdraw() {
        int account = near(4);
        int denomination = near(3);
        long seed = random.nextLong();
        int cheats = random.nextInt(3) == 0 ? near(64) : 1 << random.nextInt(6) & random.nextInt(64);
        same("withdraw(" + account + ", " + denomination + ", " + seed + ", " + cheats + ")",
                () -> mint.withdraw(account, denomination, seed, cheats),
                () -> reference.withdraw(account, denomination, seed, cheats));
    }

    private void spend() {
        int account = near(4);
        int coin = near(3);
        int merchant = random.nextBoolean() ? random.nextInt() : random.nextInt(3);
        int nonce = random.nextBoolean() ? random.nextInt() : random.nextInt(3);
        same("spend(" + account + ", " + coin + ", " + merchant + ", " + nonce + ")",
                () -> mint.spend(account, coin, merchant, nonce),
                () -> reference.spend(account, coin, merchant, nonce));
    }

    private void deposit() {
        int p = near(20);
        int account = near(4);
        same("deposit(" + p + ", " + account + ")",
                () -> mint.deposit(p, account), () -> reference.deposit(p, account));
        same("traced()", mint::traced, reference::traced);
    }

    private void tamper() {
        int p = near(20);
        int i = near(16);
        long mask = random.nextBoolean() ? 1L << random.nextInt(64) : random.nextInt(4);
        same("tamper(" + p + ", " + i + ", " + mask + ")",
                () -> mint.tamper(p, i, mask), () -> reference.tamper(p, i, mask));
        same("good(" + p + ")", () -> mint.good(p), () -> reference.good(p));
        if (random.nextInt(4) != 0) {
            same("tamper(" + p + ", " + i + ", " + mask + ") back",
                    () -> mint.tamper(p, i, mask), () -> reference.tamper(p, i, mask));
        }
    }

    /** Now and then the other nonce leaves the bits that count as they were, and the payment good. */
    private void swapNonce() {
        int p = near(20);
        for (int tries = 0; tries < 8; tries++) {
            long mask = random.nextLong();
            same("tamper(" + p + ", 3, " + mask + ")",
                    () -> mint.tamper(p, 3, mask), () -> reference.tamper(p, 3, mask));
            same("good(" + p + ")", () -> mint.good(p), () -> reference.good(p));
            if (reference.good(p)) {
                break;
            }
            same("tamper(" + p + ", 3, " + mask + ") back",
                    () -> mint.tamper(p, 3, mask), () -> reference.tamper(p, 3, mask));
        }
    }

    private void choose() {
        int account = near(4);
        int amount = random.nextInt(10) == 0 ? oddInt() : random.nextInt(50);
        same("choose(" + account + ", " + amount + ")",
                () -> mint.choose(account, amount), () -> reference.choose(account, amount));
    }

    private void ask() {
        int account = near(4);
        int coin = near(8);
        int p = near(20);
        int i = near(16);
        same("balance(" + account + ")", () -> mint.balance(account), () -> reference.balance(account));
        same("coins(" + account + ")", () -> mint.coins(account), () -> reference.coins(account));
        same("coin(" + account + ", " + coin + ")",
                () -> mint.coin(account, coin), () -> reference.coin(account, coin));
        same("signature(" + account + ", " + coin + ")",
                () -> mint.signature(account, coin), () -> reference.signature(account, coin));
        same("number(" + p + ", " + i + ")", () -> mint.number(p, i), () -> reference.number(p, i));
        same("good(" + p + ")", () -> mint.good(p), () -> reference.good(p));
        same("blinded()", mint::blinded, reference::blinded);
        same("count(" + account + ")", () -> mint.count(account), () -> reference.count(account));
    }
}
