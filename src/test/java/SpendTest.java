import java.util.List;

/** Promise 4: spend. */
public final class SpendTest {
    private static final Check CHECK = new Check();

    public static void main(String[] args) {
        numbersOfPayments();
        wrongInputs();
        twentyPayments();
        CHECK.finish();
    }

    private static void numbersOfPayments() {
        int[][] to = {{7, 1}, {0, 0}, {-1, -1}, {Integer.MIN_VALUE, Integer.MAX_VALUE}, {3, -9}, {7, 1}};
        for (int d = 0; d < 3; d++) {
            BlindMint mint = new BlindMint();
            mint.withdraw(1, d, 60 + d, 0);
            for (int p = 0; p < to.length; p++) {
                CHECK.due("the number of payment " + p, mint.spend(1, 0, to[p][0], to[p][1]), p);
                long[] head = {d, mint.signature(1, 0), to[p][0], to[p][1]};
                hasNumbers(mint, p, head, Forger.parts(Forger.candidates(60 + d, 1, 0)));
            }
        }
        allBitsOfParts();
    }

    /** Each part is told both ways, as the four lowest bits of c want it. */
    private static void allBitsOfParts() {
        BlindMint mint = new BlindMint();
        mint.withdraw(0, 1, 77, 0);
        long signature = mint.signature(0, 0);
        for (int bits = 0; bits < 16; bits++) {
            int nonce = Forger.nonceFor(12, signature, bits);
            mint.spend(0, 0, 12, nonce);
            long[] head = {1, signature, 12, nonce};
            hasNumbers(mint, bits, head, Forger.parts(Forger.candidates(77, 0, 0)));
        }
    }

    private static void hasNumbers(BlindMint mint, int p, long[] head, List<long[]> parts) {
        for (int i = 0; i < 4; i++) {
            CHECK.due("number(" + p + ", " + i + ")", mint.number(p, i), head[i]);
        }
        long c = Forger.hash(head[2], head[3], head[1]);
        for (int j = 0; j < 4; j++) {
            int from = (c >> j & 1) == 1 ? 0 : 3;
            for (int i = 0; i < 3; i++) {
                int number = 4 + 3 * j + i;
                CHECK.due("number(" + p + ", " + number + ")", mint.number(p, number), parts.get(j)[from + i]);
            }
        }
    }

    private static BlindMint twoCoins() {
        BlindMint mint = new BlindMint();
        mint.withdraw(3, 0, 1, 0);
        mint.withdraw(3, 1, 2, 0);
        return mint;
    }

    private static void wrongInputs() {
        for (int odd : new int[] {-1, 4, Integer.MIN_VALUE, Integer.MAX_VALUE}) {
            CHECK.refusedUnchanged("spend of account " + odd, Check.ARGUMENT, SpendTest::twoCoins,
                    mint -> mint.spend(odd, 0, 1, 1));
        }
        for (int odd : new int[] {-1, 2, 7, 8, Integer.MIN_VALUE, Integer.MAX_VALUE}) {
            CHECK.refusedUnchanged("spend of coin " + odd, Check.ARGUMENT, SpendTest::twoCoins,
                    mint -> mint.spend(3, odd, 1, 1));
        }
        CHECK.refusedUnchanged("spend from an empty wallet", Check.ARGUMENT, SpendTest::twoCoins,
                mint -> mint.spend(0, 0, 1, 1));
    }

    private static BlindMint twenty() {
        BlindMint mint = twoCoins();
        for (int p = 0; p < 20; p++) {
            CHECK.due("the number of payment " + p, mint.spend(3, 0, p, 0), p);
        }
        return mint;
    }

    private static void twentyPayments() {
        CHECK.refusedUnchanged("the payment beyond twenty", Check.STATE, SpendTest::twenty,
                mint -> mint.spend(3, 0, 20, 0));
        CHECK.refusedUnchanged("the payment beyond twenty with a fresh coin", Check.STATE, SpendTest::twenty,
                mint -> mint.spend(3, 1, 20, 0));
        CHECK.refused("a wrong coin beyond twenty payments", Check.ARGUMENT, () -> twenty().spend(3, 2, 20, 0));
        CHECK.refused("a wrong account beyond twenty payments", Check.ARGUMENT, () -> twenty().spend(4, 0, 20, 0));
        BlindMint mint = twenty();
        CHECK.due("number(19, 2)", mint.number(19, 2), 19L);
        CHECK.refused("number(20, 2)", Check.NO_ELEMENT, () -> mint.number(20, 2));
        CHECK.refused("tamper(20, 2, 1)", Check.ARGUMENT, () -> mint.tamper(20, 2, 1));
        CHECK.refused("deposit(20, 0)", Check.ARGUMENT, () -> mint.deposit(20, 0));
        CHECK.due("good(20)", mint.good(20), false);
        mint.deposit(19, 0);
        CHECK.refused("the payment beyond twenty after a deposit", Check.STATE, () -> mint.spend(3, 0, 20, 0));
    }
}
