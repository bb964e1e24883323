/** Promise 12: coin. */
public final class CoinTest {
    private static final Check CHECK = new Check();

    public static void main(String[] args) {
        CHECK.each(
                CoinTest::numbersOfCoins,
                CoinTest::coinsOfCheats,
                CoinTest::sameSeedAgain,
                CoinTest::noSuchAccount,
                CoinTest::noSuchCoin,
                CoinTest::lastCoinOfEveryWallet);
        CHECK.finish();
    }

    private static long numberOf(long seed, int account, int denomination, int cheats) {
        return Forger.coinNumber(denomination,
                Forger.pairHashes(Forger.parts(Forger.candidates(seed, account, cheats))));
    }

    private static BlindMint withCoins(int coins) {
        BlindMint mint = new BlindMint();
        for (int i = 0; i < coins; i++) {
            mint.withdraw(1, i % 2, i, 0);
        }
        return mint;
    }

    /** "The number M of a coin of a wallet.", also when it was spent and deposited. */
    private static void numbersOfCoins() {
        long[] seeds = {0, 1, -1, 12345, Long.MIN_VALUE, Long.MAX_VALUE, 1L << 40};
        for (int account = 0; account < 4; account++) {
            for (int d = 0; d < 3; d++) {
                BlindMint mint = new BlindMint();
                int most = d == 2 ? 5 : seeds.length;
                for (int i = 0; i < most; i++) {
                    mint.withdraw(account, d, seeds[i], 0);
                }
                mint.spend(account, 0, 1, 1);
                mint.deposit(0, account);
                for (int i = 0; i < most; i++) {
                    CHECK.due("coin(" + account + ", " + i + ")", mint.coin(account, i),
                            numberOf(seeds[i], account, d, 0));
                }
            }
        }
        CHECK.due("what coin changes", Check.changes(() -> withCoins(2), x -> x.coin(1, 1)).size(), 0);
    }

    /** The same, of coins with a part that cheats. */
    private static void coinsOfCheats() {
        BlindMint mint = new BlindMint();
        int kept = 0;
        for (long seed = 0; kept < 8; seed++) {
            int cheats = 1 << seed % 6;
            if ((Forger.opened(Forger.candidates(seed, 0, cheats)) & cheats) == 0) {
                mint.withdraw(0, 1, seed, cheats);
                CHECK.due("coin(0, " + kept + ") of a cheat", mint.coin(0, kept), numberOf(seed, 0, 1, cheats));
                kept++;
            }
        }
    }

    /** The same, of two coins of one seed. */
    private static void sameSeedAgain() {
        BlindMint mint = new BlindMint();
        mint.withdraw(0, 0, 5, 0);
        mint.withdraw(0, 0, 5, 0);
        mint.withdraw(0, 1, 5, 0);
        CHECK.due("the coin of the same seed", mint.coin(0, 1), mint.coin(0, 0));
        CHECK.due("the coin of another denomination", mint.coin(0, 2), numberOf(5, 0, 1, 0));
    }

    /** "NoSuchElementException, when there is no such account" */
    private static void noSuchAccount() {
        for (int odd : Check.NO_ACCOUNTS) {
            CHECK.refusedUnchanged("coin(" + odd + ", 0)", Check.NO_ELEMENT, () -> withCoins(2),
                    mint -> mint.coin(odd, 0));
        }
    }

    /** "no such account or coin": of two coins 0 and 1 are there, of an empty wallet none. */
    private static void noSuchCoin() {
        for (int odd : new int[] {-1, 2, 7, 8, Integer.MIN_VALUE, Integer.MAX_VALUE}) {
            CHECK.refusedUnchanged("coin(1, " + odd + ")", Check.NO_ELEMENT, () -> withCoins(2),
                    mint -> mint.coin(1, odd));
        }
        for (int account : new int[] {0, 2, 3}) {
            CHECK.refused("coin(" + account + ", 0)", Check.NO_ELEMENT, () -> withCoins(2).coin(account, 0));
        }
    }

    /** The same words, for the last coin of a wallet and the one behind it, up to the full wallet. */
    private static void lastCoinOfEveryWallet() {
        for (int n = 1; n <= 8; n++) {
            int coins = n;
            CHECK.due("the last of " + n, withCoins(n).coin(1, n - 1), numberOf(n - 1, 1, (n - 1) % 2, 0));
            CHECK.refused("the coin behind " + n, Check.NO_ELEMENT, () -> withCoins(coins).coin(1, coins));
        }
    }
}
