/** Promise 13: signature. */
public final class SignatureTest {
    private static final Check CHECK = new Check();
    /**
     * For each denomination a seed whose coin, for account 0, has a number with the first factor of the modulus,
     * and one with the second. One seed in 500 million has: these were looked for once.
     */
    private static final long[][] SEEDS_OF_FACTORS = {
        {434243543L, 1805153922L}, {35271598L, 1609799519L}, {747885580L, 558721013L}};

    public static void main(String[] args) {
        CHECK.each(
                SignatureTest::signaturesOfCoins,
                SignatureTest::numbersWithAFactorOfTheModulus,
                SignatureTest::noSuchAccount,
                SignatureTest::noSuchCoin,
                SignatureTest::lastCoinOfEveryWallet);
        CHECK.finish();
    }

    private static BlindMint withCoins(int coins) {
        BlindMint mint = new BlindMint();
        for (int i = 0; i < coins; i++) {
            mint.withdraw(1, i % 2, i, 0);
        }
        return mint;
    }

    private static void isSigned(BlindMint mint, int account, int i, int denomination) {
        long m = mint.coin(account, i);
        long signature = mint.signature(account, i);
        CHECK.due("signature(" + account + ", " + i + ")", signature, Forger.sign(m, denomination));
        CHECK.due("the signature's power", Forger.raise(signature, denomination), m);
        boolean below = signature >= 0 && signature < Forger.modulus(denomination).longValueExact();
        CHECK.due("the signature is below the modulus", below, true);
    }

    /** "The signature that a coin of a wallet has.", also when it was spent and deposited. */
    private static void signaturesOfCoins() {
        long[] seeds = {0, 1, -1, 12345, Long.MIN_VALUE, Long.MAX_VALUE, 1L << 40};
        for (int account = 0; account < 4; account++) {
            for (int d = 0; d < 3; d++) {
                BlindMint mint = new BlindMint();
                int most = d == 2 ? 5 : seeds.length;
                for (int i = 0; i < most; i++) {
                    mint.withdraw(account, d, seeds[i], 0);
                }
                mint.spend(account, 0, 1, 1);
                mint.deposit(0, account);
                for (int i = 0; i < most; i++) {
                    isSigned(mint, account, i, d);
                }
            }
        }
        CHECK.due("what signature changes", Check.changes(() -> withCoins(2), x -> x.signature(1, 1)).size(), 0);
    }

    /** "s^17 = M modulo it (there is just one)": also where M and the modulus have a factor in common. */
    private static void numbersWithAFactorOfTheModulus() {
        for (int d = 0; d < 3; d++) {
            for (int i = 0; i < 2; i++) {
                long factor = i == 0 ? Forger.P[d] : Forger.Q[d];
                BlindMint mint = new BlindMint();
                mint.withdraw(0, d, SEEDS_OF_FACTORS[d][i], 0);
                CHECK.due("M modulo " + factor, mint.coin(0, 0) % factor, 0L);
                CHECK.due("the signature modulo " + factor, mint.signature(0, 0) % factor, 0L);
                isSigned(mint, 0, 0, d);
                CHECK.due("good of its payment", mint.good(mint.spend(0, 0, 1, 1)), true);
                CHECK.due("deposit of its payment", mint.deposit(0, 1), Forger.WORTH[d]);
            }
        }
    }

    /** "NoSuchElementException, when there is no such account" */
    private static void noSuchAccount() {
        for (int odd : Check.NO_ACCOUNTS) {
            CHECK.refusedUnchanged("signature(" + odd + ", 0)", Check.NO_ELEMENT, () -> withCoins(2),
                    mint -> mint.signature(odd, 0));
        }
    }

    /** "no such account or coin": of two coins 0 and 1 are there, of an empty wallet none. */
    private static void noSuchCoin() {
        for (int odd : new int[] {-1, 2, 7, 8, Integer.MIN_VALUE, Integer.MAX_VALUE}) {
            CHECK.refusedUnchanged("signature(1, " + odd + ")", Check.NO_ELEMENT, () -> withCoins(2),
                    mint -> mint.signature(1, odd));
        }
        for (int account : new int[] {0, 2, 3}) {
            CHECK.refused("signature(" + account + ", 0)", Check.NO_ELEMENT,
                    () -> withCoins(2).signature(account, 0));
        }
    }

    /** The same words, for the last coin of a wallet and the one behind it, up to the full wallet. */
    private static void lastCoinOfEveryWallet() {
        for (int n = 1; n <= 8; n++) {
            int coins = n;
            isSigned(withCoins(n), 1, n - 1, (n - 1) % 2);
            CHECK.refused("the coin behind " + n, Check.NO_ELEMENT, () -> withCoins(coins).signature(1, coins));
        }
    }
}
