/** Promise 9, and the tracing of promise 8. */
public final class TracedTest {
    private static final Check CHECK = new Check();

    public static void main(String[] args) {
        everyAccountAndBits();
        whatChangesIt();
        leastPart();
        noSuchAccount();
        asItWasWhenDeposited();
        firstDepositCounts();
        cheatsThatWereNotFound();
        CHECK.finish();
    }

    private static BlindMint withCoin(int account) {
        BlindMint mint = new BlindMint();
        mint.withdraw(account, 1, 300 + account, 0);
        return mint;
    }

    /** Makes a payment of the account's first coin whose c has these four lowest bits. */
    private static int spend(BlindMint mint, int account, int merchant, int bits) {
        return mint.spend(account, 0, merchant, Forger.nonceFor(merchant, mint.signature(account, 0), bits));
    }

    private static void again(BlindMint mint, int p, String what, int due) {
        CHECK.refused("deposit of " + what, Check.STATE, () -> mint.deposit(p, 3));
        CHECK.due("traced() after " + what, mint.traced(), due);
    }

    private static void everyAccountAndBits() {
        for (int account = 0; account < 4; account++) {
            BlindMint mint = withCoin(account);
            CHECK.due("traced() at first", mint.traced(), -1);
            int kept = 5 * account;
            mint.deposit(spend(mint, account, 1, kept), 3);
            CHECK.due("traced() after a first deposit", mint.traced(), -1);
            for (int bits = 0; bits < 16; bits++) {
                int p = spend(mint, account, 2, bits);
                again(mint, p, "bits " + bits + " behind " + kept, bits == kept ? -1 : account);
            }
        }
    }

    private static void whatChangesIt() {
        BlindMint mint = withCoin(2);
        mint.withdraw(0, 0, 5, 0);
        int first = spend(mint, 2, 1, 3);
        int second = spend(mint, 2, 1, 4);
        int other = mint.spend(0, 0, 1, 1);
        mint.deposit(first, 0);
        again(mint, second, "the second payment", 2);
        mint.deposit(other, 0);
        CHECK.due("traced() after a deposit of another coin", mint.traced(), 2);
        CHECK.refused("deposit to no account", Check.ARGUMENT, () -> mint.deposit(first, 4));
        CHECK.refused("deposit of no payment", Check.ARGUMENT, () -> mint.deposit(3, 0));
        mint.tamper(second, 4, 1);
        CHECK.refused("deposit of what is not good", Check.ARGUMENT, () -> mint.deposit(second, 0));
        mint.tamper(second, 4, 1);
        CHECK.due("traced() after calls with wrong arguments", mint.traced(), 2);
        again(mint, first, "the first payment again", -1);
        again(mint, second, "the second payment again", 2);
        again(mint, other, "another coin's payment again", -1);
    }

    /** Two payments of a forged coin, told with bits that differ in the parts from 1 on. */
    private static BlindMint forged(long[] halves) {
        long[] hashes = {4, 44, 444, 4444};
        long signature = Forger.sign(Forger.coinNumber(2, hashes), 2);
        BlindMint mint = withCoin(0);
        mint.spend(0, 0, 1, 1);
        mint.spend(0, 0, 1, 2);
        long[] vs = {70, 71, 72, 73};
        long[] others = new long[4];
        for (int j = 0; j < 4; j++) {
            others[j] = vs[j] ^ halves[j];
        }
        int one = Forger.nonceFor(6, signature, 0b0101);
        int other = Forger.nonceFor(6, signature, 0b1011);
        Forger.write(mint, 0, Forger.payment(2, hashes, 6, one, vs));
        Forger.write(mint, 1, Forger.payment(2, hashes, 6, other, others));
        CHECK.due("deposit of a forged coin", mint.deposit(0, 0), 20);
        return mint;
    }

    private static void leastPart() {
        again(forged(new long[] {1000, 1001, 1002, 1003}), 1, "halves of all accounts", 1);
        again(forged(new long[] {1000, 1003, 1002, 1001}), 1, "halves of all accounts, in another order", 3);
        again(forged(new long[] {1000, 5, 1002, 1001}), 1, "halves of no account in the least part", -1);
        again(forged(new long[] {5, 1000, 5, 5}), 1, "halves of an account in the least part alone", 0);
    }

    private static void noSuchAccount() {
        for (long odd : new long[] {0, 1, 3, 999, 1004, -1000, 1000 | 1L << 32, 1001 | Long.MIN_VALUE, -1}) {
            BlindMint mint = forged(new long[] {1000, odd, 1000, 1000});
            again(mint, 1, "halves that make " + odd, -1);
        }
        BlindMint mint = forged(new long[] {1000, 999, 1000, 1000});
        int first = mint.spend(0, 0, 1, 1);
        mint.deposit(first, 0);
        again(mint, spend(mint, 0, 1, ~bits(mint, first) & 15), "a real coin twice", 0);
        again(mint, 1, "halves that make 999", -1);
    }

    private static int bits(BlindMint mint, int p) {
        return (int) Forger.hash(mint.number(p, 2), mint.number(p, 3), mint.number(p, 1)) & 15;
    }

    /** What is done to the payment after its deposit does not help the spender. */
    private static void asItWasWhenDeposited() {
        BlindMint mint = withCoin(1);
        int first = spend(mint, 1, 1, 0);
        int second = spend(mint, 1, 1, 15);
        mint.deposit(first, 0);
        for (int i = 0; i < 16; i++) {
            mint.tamper(first, i, mint.number(first, i) ^ mint.number(second, i));
        }
        again(mint, second, "the second payment when the first became it", 1);
        again(mint, first, "the first payment that became the second", 1);
        BlindMint untold = withCoin(1);
        int paid = spend(untold, 1, 1, 0);
        untold.deposit(paid, 0);
        long v = untold.number(paid, 4);
        long w = untold.number(paid, 5);
        untold.tamper(paid, 4, 1 << 20);
        untold.tamper(paid, 5, w ^ Forger.otherSecond(v, w, v ^ 1 << 20));
        CHECK.due("good with another v after the deposit", untold.good(paid), true);
        again(untold, paid, "the same bits with another v", -1);
        again(untold, spend(untold, 1, 1, 1), "other bits after the v was changed", 1);
    }

    /** A deposit that was refused is not the one that later payments are held against. */
    private static void firstDepositCounts() {
        BlindMint mint = withCoin(0);
        int first = spend(mint, 0, 1, 6);
        int second = spend(mint, 0, 1, 9);
        mint.deposit(first, 0);
        again(mint, second, "the second payment", 0);
        again(mint, second, "the second payment once more", 0);
        again(mint, first, "the first payment", -1);
    }

    /** A candidate that cheats hides the neighbour's identity. */
    private static void cheatsThatWereNotFound() {
        for (int account = 0; account < 4; account++) {
            long seed = 0;
            int cheats = 0;
            for (; cheats == 0; seed++) {
                int unopened = 63 & ~Forger.opened(Forger.candidates(seed, account, 63));
                cheats = Forger.opened(Forger.candidates(seed, account, unopened)) == (63 & ~unopened) ? unopened : 0;
            }
            BlindMint mint = new BlindMint();
            mint.withdraw(account, 0, seed - 1, cheats);
            mint.deposit(spend(mint, account, 1, 10), 0);
            again(mint, spend(mint, account, 2, 5), "a coin all of whose parts cheat", account ^ 1);
        }
    }
}
