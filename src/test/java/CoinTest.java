/** Promises 12 and 13: coin and signature. */
public final class CoinTest {
    private static final Check CHECK = new Check();

    public static void main(String[] args) {
        ordinary();
        withCheats();
        fullWallet();
        wrongInputs();
        CHECK.finish();
    }

    private static void isCoin(BlindMint mint, int account, int i, int denomination, long m) {
        CHECK.due("coin(" + account + ", " + i + ")", mint.coin(account, i), m);
        long signature = mint.signature(account, i);
        CHECK.due("signature(" + account + ", " + i + ")", signature, Forger.sign(m, denomination));
        CHECK.due("the signature's power", Forger.raise(signature, denomination), m);
    }

    private static long numberOf(long seed, int account, int denomination, int cheats) {
        return Forger.coinNumber(denomination,
                Forger.pairHashes(Forger.parts(Forger.candidates(seed, account, cheats))));
    }

    private static void ordinary() {
        long[] seeds = {0, 1, -1, 12345, Long.MIN_VALUE, Long.MAX_VALUE, 1L << 40};
        for (int account = 0; account < 4; account++) {
            for (int d = 0; d < 3; d++) {
                BlindMint mint = new BlindMint();
                int most = d == 2 ? 5 : seeds.length;
                for (int i = 0; i < most; i++) {
                    mint.withdraw(account, d, seeds[i], 0);
                }
                mint.spend(account, 0, 1, 1);
                mint.deposit(0, account);
                for (int i = 0; i < most; i++) {
                    isCoin(mint, account, i, d, numberOf(seeds[i], account, d, 0));
                }
            }
        }
        BlindMint twins = new BlindMint();
        twins.withdraw(0, 0, 5, 0);
        twins.withdraw(0, 0, 5, 0);
        CHECK.due("the coin of the same seed", twins.coin(0, 1), twins.coin(0, 0));
    }

    private static void withCheats() {
        BlindMint mint = new BlindMint();
        int kept = 0;
        for (long seed = 0; kept < 8; seed++) {
            int cheats = 1 << seed % 6;
            if ((Forger.opened(Forger.candidates(seed, 0, cheats)) & cheats) == 0) {
                mint.withdraw(0, 1, seed, cheats);
                isCoin(mint, 0, kept, 1, numberOf(seed, 0, 1, cheats));
                kept++;
            }
        }
    }

    private static BlindMint twoCoins() {
        BlindMint mint = new BlindMint();
        mint.withdraw(1, 0, 1, 0);
        mint.withdraw(1, 1, 2, 0);
        return mint;
    }

    private static void fullWallet() {
        BlindMint mint = new BlindMint();
        for (int i = 0; i < 8; i++) {
            mint.withdraw(3, 0, i, 0);
        }
        isCoin(mint, 3, 7, 0, numberOf(7, 3, 0, 0));
        CHECK.refused("coin(3, 8) of a full wallet", Check.NO_ELEMENT, () -> mint.coin(3, 8));
        CHECK.refused("signature(3, 8) of a full wallet", Check.NO_ELEMENT, () -> mint.signature(3, 8));
        CHECK.refused("spend(3, 8, 1, 1) of a full wallet", Check.ARGUMENT, () -> mint.spend(3, 8, 1, 1));
    }

    private static void wrongInputs() {
        int[][] odd = {{-1, 0}, {4, 0}, {Integer.MIN_VALUE, 0}, {Integer.MAX_VALUE, 0}, {1, -1}, {1, 2}, {1, 7},
            {1, 8}, {1, Integer.MIN_VALUE}, {1, Integer.MAX_VALUE}, {0, 0}, {-1, -1}};
        for (int[] row : odd) {
            CHECK.refusedUnchanged("coin(" + row[0] + ", " + row[1] + ")", Check.NO_ELEMENT, CoinTest::twoCoins,
                    mint -> mint.coin(row[0], row[1]));
            CHECK.refusedUnchanged("signature(" + row[0] + ", " + row[1] + ")", Check.NO_ELEMENT,
                    CoinTest::twoCoins, mint -> mint.signature(row[0], row[1]));
        }
    }
}
