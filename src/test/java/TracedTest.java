/** Promise 9, and the tracing of promise 8. */
public final class TracedTest {
    private static final Check CHECK = new Check();

    public static void main(String[] args) {
        CHECK.each(
                TracedTest::noneAtFirst,
                TracedTest::tracedLast,
                TracedTest::everyAccountAndBits,
                TracedTest::bitThreeAndBitFour,
                TracedTest::whatChangesIt,
                TracedTest::leastPart,
                TracedTest::leastIdentityAndGreatest,
                TracedTest::sameBitsWithHalvesOfAnAccount,
                TracedTest::noneAfterAnAccount,
                TracedTest::asItWasWhenDeposited,
                TracedTest::otherHalvesAfterTheDeposit,
                TracedTest::firstDepositCounts,
                TracedTest::cheatsThatWereNotFound);
        CHECK.finish();
    }

    private static BlindMint withCoin(int account) {
        BlindMint mint = new BlindMint();
        mint.withdraw(account, 1, 300 + account, 0);
        return mint;
    }

    /** Makes a payment of the account's first coin whose c has these four lowest bits. */
    private static int spend(BlindMint mint, int account, int merchant, int bits) {
        return mint.spend(account, 0, merchant, Forger.nonceFor(merchant, mint.signature(account, 0), bits));
    }

    private static void again(BlindMint mint, int p, String what, int due) {
        CHECK.refused("deposit of " + what, Check.STATE, () -> mint.deposit(p, 3));
        CHECK.due("traced() after " + what, mint.traced(), due);
    }

    /** "NONE at first", until a coin is deposited again. */
    private static void noneAtFirst() {
        CHECK.due("traced() of a new object", new BlindMint().traced(), BlindMint.NONE);
        BlindMint mint = withCoin(0);
        int p = spend(mint, 0, 1, 3);
        spend(mint, 0, 1, 4);
        CHECK.due("traced() after two payments of a coin", mint.traced(), BlindMint.NONE);
        mint.deposit(p, 1);
        CHECK.due("traced() after a first deposit", mint.traced(), BlindMint.NONE);
    }

    /** "The account that was traced last": of two that spent a coin twice, that of the later deposit. */
    private static void tracedLast() {
        BlindMint mint = withCoin(0);
        mint.withdraw(3, 2, 5, 0);
        for (int account : new int[] {0, 3}) {
            mint.deposit(spend(mint, account, 1, 6), 1);
        }
        for (int account : new int[] {3, 0, 0, 3}) {
            again(mint, spend(mint, account, 2, 7), "another payment of account " + account, account);
        }
    }

    /** "if its c and that of the payment as it was when it was deposited differ in the bits 0 to 3" */
    private static void everyAccountAndBits() {
        for (int account = 0; account < 4; account++) {
            BlindMint mint = withCoin(account);
            int kept = 5 * account;
            mint.deposit(spend(mint, account, 1, kept), 3);
            for (int bits = 0; bits < 16; bits++) {
                int p = spend(mint, account, 2, bits);
                again(mint, p, "bits " + bits + " behind " + kept, bits == kept ? -1 : account);
            }
        }
    }

    /** The same words: a difference in one of the bits 0 .. 3 alone is one, in bit 4 or above it is none. */
    private static void bitThreeAndBitFour() {
        BlindMint mint = withCoin(3);
        long signature = mint.signature(3, 0);
        mint.deposit(mint.spend(3, 0, 1, 0), 0);
        long kept = Forger.hash(1, 0, signature);
        for (int bit = 0; bit < 12; bit++) {
            int nonce = 1;
            while ((Forger.hash(2, nonce, signature) & 4095) != (kept & 4095 ^ 1 << bit)) {
                nonce++;
            }
            again(mint, mint.spend(3, 0, 2, nonce), "a c that differs in bit " + bit, bit < 4 ? 3 : -1);
        }
    }

    /** "in this case (only) the call changes what traced answers" */
    private static void whatChangesIt() {
        BlindMint mint = withCoin(2);
        mint.withdraw(0, 0, 5, 0);
        int first = spend(mint, 2, 1, 3);
        int second = spend(mint, 2, 1, 4);
        int other = mint.spend(0, 0, 1, 1);
        mint.deposit(first, 0);
        again(mint, second, "the second payment", 2);
        mint.deposit(other, 0);
        CHECK.due("traced() after a deposit of another coin", mint.traced(), 2);
        CHECK.refused("deposit to no account", Check.ARGUMENT, () -> mint.deposit(first, 4));
        CHECK.refused("deposit of no payment", Check.ARGUMENT, () -> mint.deposit(3, 0));
        mint.tamper(second, 4, 1);
        CHECK.refused("deposit of what is not good", Check.ARGUMENT, () -> mint.deposit(second, 0));
        mint.tamper(second, 4, 1);
        CHECK.due("traced() after calls with wrong arguments", mint.traced(), 2);
        again(mint, first, "the first payment again", -1);
        again(mint, second, "the second payment again", 2);
        again(mint, other, "another coin's payment again", -1);
    }

    /** Two payments of a forged coin, told with bits that differ in the parts from 1 on; the one is deposited. */
    private static BlindMint forged(long[] halves) {
        return forged(halves, 0b0101, 0b1011);
    }

    private static BlindMint forged(long[] halves, int bits, int otherBits) {
        long[] hashes = {4, 44, 444, 4444};
        long signature = Forger.sign(Forger.coinNumber(2, hashes), 2);
        BlindMint mint = withCoin(0);
        mint.spend(0, 0, 1, 1);
        mint.spend(0, 0, 1, 2);
        long[] vs = {70, 71, 72, 73};
        long[] others = new long[4];
        for (int j = 0; j < 4; j++) {
            others[j] = vs[j] ^ halves[j];
        }
        int one = Forger.nonceFor(6, signature, bits);
        int other = Forger.nonceFor(7, signature, otherBits);
        Forger.write(mint, 0, Forger.payment(2, hashes, 6, one, vs));
        Forger.write(mint, 1, Forger.payment(2, hashes, 7, other, others));
        CHECK.due("deposit of a forged coin", mint.deposit(0, 0), 20);
        return mint;
    }

    /** "the mint takes the v's of the least part for which they do" */
    private static void leastPart() {
        again(forged(new long[] {1000, 1001, 1002, 1003}), 1, "halves of all accounts", 1);
        again(forged(new long[] {1000, 1003, 1002, 1001}), 1, "halves of all accounts, in another order", 3);
        again(forged(new long[] {1000, 5, 1002, 1001}), 1, "halves of no account in the least part", -1);
        again(forged(new long[] {5, 1000, 5, 5}), 1, "halves of an account in the least part alone", 0);
        for (int least = 0; least < 4; least++) {
            long[] halves = {5, 5, 5, 5};
            halves[least] = 1002;
            again(forged(halves, 0, 15 & -1 << least), 1, "bits that differ from " + least + " on", 2);
        }
    }

    /** "the account whose identity is the one xor the other": 1000 .. 1003 are accounts, all 64 bits count. */
    private static void leastIdentityAndGreatest() {
        for (int account = 0; account < 4; account++) {
            BlindMint mint = forged(new long[] {5, 1000 + account, 5, 5});
            again(mint, 1, "halves that make " + (1000 + account), account);
        }
        for (long odd : new long[] {999, 1004, 0, 1, 3, -1, -1000, 1000 | 1L << 32, 1001 | Long.MIN_VALUE}) {
            BlindMint mint = forged(new long[] {1000, odd, 1000, 1000});
            again(mint, 1, "halves that make " + odd, -1);
        }
    }

    /** "or the bits do not differ": then the v's count for nothing, though they would make an identity. */
    private static void sameBitsWithHalvesOfAnAccount() {
        for (int bits = 0; bits < 16; bits++) {
            BlindMint mint = forged(new long[] {1000, 1001, 1002, 1003}, bits, bits);
            again(mint, 1, "the same bits " + bits + " with halves of accounts", -1);
        }
    }

    /**
     * "to NONE when there is no such account, or the bits do not differ", "and when the last tracing found none":
     * also when an account was traced before.
     */
    private static void noneAfterAnAccount() {
        BlindMint mint = forged(new long[] {1000, 999, 1000, 1000});
        int first = mint.spend(0, 0, 1, 1);
        mint.deposit(first, 0);
        int second = spend(mint, 0, 1, ~bits(mint, first) & 15);
        again(mint, second, "a real coin twice", 0);
        again(mint, 1, "halves that make 999", -1);
        again(mint, second, "a real coin three times", 0);
        again(mint, first, "the payment that was deposited", -1);
    }

    private static int bits(BlindMint mint, int p) {
        return (int) Forger.hash(mint.number(p, 2), mint.number(p, 3), mint.number(p, 1)) & 15;
    }

    /** "the payment as it was when it was deposited": that it becomes another one then is no help. */
    private static void asItWasWhenDeposited() {
        BlindMint mint = withCoin(1);
        int first = spend(mint, 1, 1, 0);
        int second = spend(mint, 1, 1, 15);
        mint.deposit(first, 0);
        for (int i = 0; i < 16; i++) {
            mint.tamper(first, i, mint.number(first, i) ^ mint.number(second, i));
        }
        again(mint, second, "the second payment when the first became it", 1);
        again(mint, first, "the first payment that became the second", 1);
    }

    /** The same words: nor is it that the payment's v's are others then. */
    private static void otherHalvesAfterTheDeposit() {
        BlindMint mint = withCoin(1);
        int paid = spend(mint, 1, 1, 0);
        mint.deposit(paid, 0);
        long v = mint.number(paid, 4);
        long w = mint.number(paid, 5);
        mint.tamper(paid, 4, 1 << 20);
        mint.tamper(paid, 5, w ^ Forger.otherSecond(v, w, v ^ 1 << 20));
        CHECK.due("good with another v after the deposit", mint.good(paid), true);
        again(mint, paid, "the same bits with another v", -1);
        again(mint, spend(mint, 1, 1, 1), "other bits after the v was changed", 1);
    }

    /** The same words: a deposit that was refused is not the one that later payments are held against. */
    private static void firstDepositCounts() {
        BlindMint mint = withCoin(0);
        int first = spend(mint, 0, 1, 6);
        int second = spend(mint, 0, 1, 9);
        mint.deposit(first, 0);
        again(mint, second, "the second payment", 0);
        again(mint, second, "the second payment once more", 0);
        again(mint, first, "the first payment", -1);
    }

    /** "or A xor u xor 1 when it CHEATS": a coin of such parts leads to the neighbour. */
    private static void cheatsThatWereNotFound() {
        for (int account = 0; account < 4; account++) {
            long seed = 0;
            int cheats = 0;
            for (; cheats == 0; seed++) {
                int unopened = 63 & ~Forger.opened(Forger.candidates(seed, account, 63));
                cheats = Forger.opened(Forger.candidates(seed, account, unopened)) == (63 & ~unopened) ? unopened : 0;
            }
            BlindMint mint = new BlindMint();
            mint.withdraw(account, 0, seed - 1, cheats);
            mint.deposit(spend(mint, account, 1, 10), 0);
            again(mint, spend(mint, account, 2, 5), "a coin all of whose parts cheat", account ^ 1);
        }
    }
}
