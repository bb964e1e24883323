import java.util.List;

/** Promise 4: spend. */
public final class SpendTest {
    private static final Check CHECK = new Check();

    public static void main(String[] args) {
        CHECK.each(
                SpendTest::numbersOfPayments,
                SpendTest::merchantsAndNoncesOfAllSizes,
                SpendTest::allBitsOfParts,
                SpendTest::isSpentThen,
                SpendTest::mayHaveBeenSpentBefore,
                SpendTest::noSuchAccount,
                SpendTest::noSuchCoin,
                SpendTest::lastCoinOfEveryWallet,
                SpendTest::twentyPayments,
                SpendTest::twentyStayTwenty,
                SpendTest::argumentsBeforeState);
        CHECK.finish();
    }

    /** Account 3 has so many coins, of denominations 0, 1, 0, 1, ... */
    private static BlindMint withCoins(int coins) {
        BlindMint mint = new BlindMint();
        for (int i = 0; i < coins; i++) {
            mint.withdraw(3, i % 2, 1 + i, 0);
        }
        return mint;
    }

    private static BlindMint withPayments(int payments) {
        BlindMint mint = withCoins(2);
        for (int p = 0; p < payments; p++) {
            mint.spend(3, 0, p, 0);
        }
        return mint;
    }

    /** "its number (from 0)", up to that of the twentieth. */
    private static void numbersOfPayments() {
        BlindMint mint = withCoins(2);
        for (int p = 0; p < 20; p++) {
            CHECK.due("the number of payment " + p, mint.spend(3, p % 2, p, 0), p);
            CHECK.due("its merchant", mint.number(p, 2), (long) p);
        }
    }

    /** "to a merchant with a nonce": any ints. */
    private static void merchantsAndNoncesOfAllSizes() {
        int[][] to = {{7, 1}, {0, 0}, {-1, -1}, {Integer.MIN_VALUE, Integer.MAX_VALUE},
            {Integer.MAX_VALUE, Integer.MIN_VALUE}, {3, -9}, {7, 1}};
        for (int d = 0; d < 3; d++) {
            BlindMint mint = new BlindMint();
            mint.withdraw(1, d, 60 + d, 0);
            for (int p = 0; p < to.length; p++) {
                mint.spend(1, 0, to[p][0], to[p][1]);
                long[] head = {d, mint.signature(1, 0), to[p][0], to[p][1]};
                hasNumbers(mint, p, head, Forger.parts(Forger.candidates(60 + d, 1, 0)));
            }
        }
    }

    /** "when bit j of c is 1: A, C and Y; when it is 0: B, E and X of that part" */
    private static void allBitsOfParts() {
        BlindMint mint = new BlindMint();
        mint.withdraw(0, 1, 77, 0);
        long signature = mint.signature(0, 0);
        for (int bits = 0; bits < 16; bits++) {
            int nonce = Forger.nonceFor(12, signature, bits);
            mint.spend(0, 0, 12, nonce);
            long[] head = {1, signature, 12, nonce};
            hasNumbers(mint, bits, head, Forger.parts(Forger.candidates(77, 0, 0)));
        }
    }

    private static void hasNumbers(BlindMint mint, int p, long[] head, List<long[]> parts) {
        for (int i = 0; i < 4; i++) {
            CHECK.due("number(" + p + ", " + i + ")", mint.number(p, i), head[i]);
        }
        long c = Forger.hash(head[2], head[3], head[1]);
        for (int j = 0; j < 4; j++) {
            int from = (c >> j & 1) == 1 ? 0 : 3;
            for (int i = 0; i < 3; i++) {
                int number = 4 + 3 * j + i;
                CHECK.due("number(" + p + ", " + number + ")", mint.number(p, number), parts.get(j)[from + i]);
            }
        }
    }

    /** "which is spent then": that coin, and no other. */
    private static void isSpentThen() {
        for (int i = 0; i < 4; i++) {
            BlindMint mint = withCoins(4);
            CHECK.due("all coins before", mint.choose(3, 12), 15);
            mint.spend(3, i, 1, 1);
            CHECK.due("the others after", mint.choose(3, i % 2 == 0 ? 11 : 7), 15 - (1 << i));
            CHECK.due("the coins of the wallet after", mint.coins(3), 4);
            CHECK.due("the balance after", mint.balance(3), 88);
        }
    }

    /** "(it may have been before)" */
    private static void mayHaveBeenSpentBefore() {
        BlindMint mint = withCoins(1);
        for (int p = 0; p < 3; p++) {
            CHECK.due("a coin's payment " + p, mint.spend(3, 0, 5, p), p);
            CHECK.due("good of it", mint.good(p), true);
        }
        mint.deposit(1, 0);
        CHECK.due("a coin's payment after its deposit", mint.spend(3, 0, 5, 3), 3);
        CHECK.due("good of that", mint.good(3), true);
        CHECK.due("the same payment again", mint.spend(3, 0, 5, 0), 4);
        for (int i = 0; i < 16; i++) {
            CHECK.due("number " + i + " of the same payment again", mint.number(4, i), mint.number(0, i));
        }
    }

    /** "IllegalArgumentException, when there is no such account" */
    private static void noSuchAccount() {
        for (int odd : Check.NO_ACCOUNTS) {
            CHECK.refusedUnchanged("spend of account " + odd, Check.ARGUMENT, () -> withCoins(2),
                    mint -> mint.spend(odd, 0, 1, 1));
        }
        for (int account = 0; account < 4; account++) {
            BlindMint mint = new BlindMint();
            mint.withdraw(account, 0, 9, 0);
            CHECK.due("spend of account " + account, mint.spend(account, 0, 1, 1), 0);
        }
    }

    /** "no such account or coin": of two coins 0 and 1 are there, of an empty wallet none. */
    private static void noSuchCoin() {
        for (int odd : new int[] {-1, 2, 7, 8, Integer.MIN_VALUE, Integer.MAX_VALUE}) {
            CHECK.refusedUnchanged("spend of coin " + odd, Check.ARGUMENT, () -> withCoins(2),
                    mint -> mint.spend(3, odd, 1, 1));
        }
        CHECK.refusedUnchanged("spend from an empty wallet", Check.ARGUMENT, () -> withCoins(2),
                mint -> mint.spend(0, 0, 1, 1));
    }

    /** The same words, for the last coin of a wallet and the one behind it, up to the full wallet. */
    private static void lastCoinOfEveryWallet() {
        for (int n = 1; n <= 8; n++) {
            int coins = n;
            CHECK.due("spend of the last of " + n, withCoins(n).spend(3, n - 1, 1, 1), 0);
            CHECK.refusedUnchanged("spend of the coin behind " + n, Check.ARGUMENT, () -> withCoins(coins),
                    mint -> mint.spend(3, coins, 1, 1));
        }
    }

    /** "IllegalStateException, when there are twenty payments": nineteen are not yet, and no coin is spent then. */
    private static void twentyPayments() {
        CHECK.due("the payment behind nineteen", withPayments(19).spend(3, 1, 20, 0), 19);
        CHECK.refusedUnchanged("the payment behind twenty", Check.STATE, () -> withPayments(20),
                mint -> mint.spend(3, 0, 20, 0));
        CHECK.refusedUnchanged("the payment behind twenty with a fresh coin", Check.STATE, () -> withPayments(20),
                mint -> mint.spend(3, 1, 20, 0));
        BlindMint mint = withPayments(20);
        Check.outcome(() -> mint.spend(3, 1, 20, 0));
        CHECK.due("choose of the fresh coin after that", mint.choose(3, 5), 2);
    }

    /** The same: no call makes room for another payment. */
    private static void twentyStayTwenty() {
        BlindMint mint = withPayments(20);
        mint.deposit(19, 0);
        mint.tamper(0, 0, -1);
        mint.withdraw(1, 0, 5, 0);
        CHECK.refused("the payment behind twenty after a deposit", Check.STATE, () -> mint.spend(3, 0, 20, 0));
        CHECK.refused("the payment behind twenty by another account", Check.STATE, () -> mint.spend(1, 0, 20, 0));
    }

    /** "What it throws is tested in the order in which it stands there." */
    private static void argumentsBeforeState() {
        CHECK.refusedUnchanged("a wrong coin behind twenty payments", Check.ARGUMENT, () -> withPayments(20),
                mint -> mint.spend(3, 2, 20, 0));
        CHECK.refusedUnchanged("a wrong account behind twenty payments", Check.ARGUMENT, () -> withPayments(20),
                mint -> mint.spend(4, 0, 20, 0));
    }
}
