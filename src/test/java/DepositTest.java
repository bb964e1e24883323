import java.util.Set;

/** Promise 8: deposit; its tracing stands in TracedTest. */
public final class DepositTest {
    private static final Check CHECK = new Check();
    private static final long[] VS = {1, 2, 3, 4};

    public static void main(String[] args) {
        CHECK.each(
                DepositTest::ordinary,
                DepositTest::noSuchAccount,
                DepositTest::noSuchPayment,
                DepositTest::noPaymentsAtAll,
                DepositTest::twentiethPayment,
                DepositTest::notGood,
                DepositTest::argumentsBeforeState,
                DepositTest::depositedBefore,
                DepositTest::repeatChangesThisAlone,
                DepositTest::firstDepositToAnyAccount,
                DepositTest::twoCoinsOfOneSeed,
                DepositTest::otherCoinsOfTheSameNumber,
                DepositTest::sameHashesOfOtherDenominations,
                DepositTest::moreCoinsThanPayments);
        CHECK.finish();
    }

    private static BlindMint threePayments() {
        BlindMint mint = new BlindMint();
        for (int d = 0; d < 3; d++) {
            mint.withdraw(d, d, 90 + d, 0);
            mint.spend(d, 0, 55, d);
        }
        return mint;
    }

    /** "Deposits payment p to an account: what the coin is worth; the account has that more." */
    private static void ordinary() {
        BlindMint mint = threePayments();
        CHECK.due("deposit of 20", mint.deposit(2, 3), 20);
        CHECK.due("deposit of 1", mint.deposit(0, 3), 1);
        CHECK.due("deposit of 5 by its spender", mint.deposit(1, 1), 5);
        int[] balances = {99, 100, 80, 121};
        for (int a = 0; a < 4; a++) {
            CHECK.due("balance(" + a + ") after the deposits", mint.balance(a), balances[a]);
        }
        CHECK.due("what a deposit changes", Check.changes(DepositTest::threePayments, x -> x.deposit(2, 3)),
                Set.of("balance(3): 120", "count(1): 1"));
    }

    /** "IllegalArgumentException, when there is no such account" */
    private static void noSuchAccount() {
        for (int odd : Check.NO_ACCOUNTS) {
            CHECK.refusedUnchanged("deposit(0, " + odd + ")", Check.ARGUMENT, DepositTest::threePayments,
                    mint -> mint.deposit(0, odd));
        }
        for (int account = 0; account < 4; account++) {
            CHECK.due("deposit(1, " + account + ")", threePayments().deposit(1, account), 5);
        }
    }

    /** "no such account or payment": of three payments 0 .. 2 are there. */
    private static void noSuchPayment() {
        for (int odd : new int[] {-1, 3, 19, 20, Integer.MIN_VALUE, Integer.MAX_VALUE}) {
            CHECK.refusedUnchanged("deposit(" + odd + ", 0)", Check.ARGUMENT, DepositTest::threePayments,
                    mint -> mint.deposit(odd, 0));
        }
        for (int p = 0; p < 3; p++) {
            CHECK.due("deposit(" + p + ", 0)", threePayments().deposit(p, 0), Forger.WORTH[p]);
        }
    }

    /** The same words, for an object without payments. */
    private static void noPaymentsAtAll() {
        for (int p : new int[] {-1, 0, 1}) {
            CHECK.refusedUnchanged("deposit(" + p + ", 0) of a new object", Check.ARGUMENT, BlindMint::new,
                    mint -> mint.deposit(p, 0));
        }
    }

    private static BlindMint twentyPayments() {
        BlindMint mint = threePayments();
        for (int p = 3; p < 20; p++) {
            mint.spend(2, 0, 60, p);
        }
        return mint;
    }

    /** The same words, for the last of twenty payments and the one behind it. */
    private static void twentiethPayment() {
        CHECK.due("deposit(19, 0)", twentyPayments().deposit(19, 0), 20);
        CHECK.refusedUnchanged("deposit(20, 0)", Check.ARGUMENT, DepositTest::twentyPayments,
                mint -> mint.deposit(20, 0));
    }

    private static BlindMint tampered() {
        BlindMint mint = threePayments();
        mint.tamper(1, 6, 1);
        return mint;
    }

    /** "or it is not good", and when it is good again it can be deposited. */
    private static void notGood() {
        CHECK.refusedUnchanged("deposit of a payment that is not good", Check.ARGUMENT, DepositTest::tampered,
                mint -> mint.deposit(1, 0));
        BlindMint mint = tampered();
        mint.tamper(1, 6, 1);
        CHECK.due("deposit of a payment that is good again", mint.deposit(1, 0), 5);
    }

    private static BlindMint depositedThenTampered() {
        BlindMint mint = threePayments();
        mint.deposit(0, 0);
        mint.tamper(0, 6, 1);
        return mint;
    }

    /** "What it throws is tested in the order in which it stands there." */
    private static void argumentsBeforeState() {
        CHECK.refusedUnchanged("deposit again to no account", Check.ARGUMENT, DepositTest::repeated,
                mint -> mint.deposit(0, 4));
        CHECK.refusedUnchanged("deposit again when not good", Check.ARGUMENT, DepositTest::depositedThenTampered,
                mint -> mint.deposit(0, 1));
    }

    /** "IllegalStateException, when its coin was deposited before": by this payment or by another of the coin. */
    private static void depositedBefore() {
        BlindMint mint = threePayments();
        mint.spend(2, 0, 56, 0);
        CHECK.due("deposit of the coin's second payment", mint.deposit(3, 0), 20);
        for (int p : new int[] {3, 2, 3}) {
            int before = mint.count(3);
            CHECK.refused("deposit again of payment " + p, Check.STATE, () -> mint.deposit(p, 0));
            CHECK.due("balance after deposit again", mint.balance(0), 119);
            CHECK.due("count(1) after deposit again", mint.count(1), 1);
            CHECK.due("count(3) after deposit again", mint.count(3), before + 1);
        }
        CHECK.due("deposit of another coin", mint.deposit(1, 0), 5);
        mint.tamper(3, 3, 1);
        mint.tamper(3, 3, 1);
        CHECK.refused("deposit again after tampering to and fro", Check.STATE, () -> mint.deposit(3, 1));
    }

    /** Account 2's coin was paid with twice, told with the bits 0 and 8; the first was deposited, then the other. */
    private static BlindMint repeated() {
        BlindMint mint = new BlindMint();
        mint.withdraw(2, 1, 8, 0);
        mint.withdraw(2, 0, 9, 0);
        long signature = mint.signature(2, 0);
        mint.spend(2, 0, 1, Forger.nonceFor(1, signature, 0));
        mint.spend(2, 0, 1, Forger.nonceFor(1, signature, 8));
        mint.deposit(0, 0);
        Check.outcome(() -> mint.deposit(1, 0));
        return mint;
    }

    /** "in this case (only) the call changes what traced answers", and it is counted; nothing else changes. */
    private static void repeatChangesThisAlone() {
        CHECK.due("traced() before", repeated().traced(), 2);
        for (int account = 0; account < 4; account++) {
            int to = account;
            CHECK.refusedChanging("deposit again with the same bits", Check.STATE, DepositTest::repeated,
                    mint -> mint.deposit(0, to), "count(3): 2", "traced(): -1");
            CHECK.refusedChanging("deposit again with other bits", Check.STATE, DepositTest::repeated,
                    mint -> mint.deposit(1, to), "count(3): 2");
        }
    }

    /** The same sentence: it is the coin that counts, and not to which account it is deposited. */
    private static void firstDepositToAnyAccount() {
        for (int first = 0; first < 4; first++) {
            for (int second = 0; second < 4; second++) {
                BlindMint mint = threePayments();
                int to = second;
                CHECK.due("deposit(1, " + first + ")", mint.deposit(1, first), 5);
                CHECK.refused("deposit(1, " + second + ") again", Check.STATE, () -> mint.deposit(1, to));
            }
        }
    }

    /** "The coin of a good payment": two that are alike in a wallet are one; another account's is another. */
    private static void twoCoinsOfOneSeed() {
        BlindMint mint = new BlindMint();
        for (int account : new int[] {1, 1, 2}) {
            mint.withdraw(account, 1, 33, 0);
        }
        long signature = mint.signature(1, 0);
        mint.spend(1, 0, 1, Forger.nonceFor(1, signature, 4));
        mint.spend(1, 1, 1, Forger.nonceFor(1, signature, 6));
        mint.spend(2, 0, 1, 1);
        CHECK.due("deposit of the one", mint.deposit(0, 0), 5);
        CHECK.refused("deposit of the one like it", Check.STATE, () -> mint.deposit(1, 0));
        CHECK.due("traced() then", mint.traced(), 1);
        CHECK.due("deposit of another account's", mint.deposit(2, 0), 5);
    }

    /** "that with the same denomination and P_0 .. P_3": two coins may bear the same number and signature. */
    private static void otherCoinsOfTheSameNumber() {
        BlindMint mint = threePayments();
        long[] first = {10, 20, 30, 1L << 57};
        long[] second = sameNumber(first, 31);
        Forger.write(mint, 0, Forger.payment(1, first, 1, 2, VS));
        Forger.write(mint, 1, Forger.payment(1, second, 1, 2, VS));
        CHECK.due("the signatures are the same", mint.number(0, 1), mint.number(1, 1));
        CHECK.due("deposit of the one", mint.deposit(0, 3), 5);
        CHECK.due("deposit of the other", mint.deposit(1, 3), 5);
        CHECK.refused("deposit again of the one", Check.STATE, () -> mint.deposit(0, 3));
        CHECK.refused("deposit again of the other", Check.STATE, () -> mint.deposit(1, 3));
        CHECK.due("count(1) of both", mint.count(1), 2);
    }

    /** Other growing pair hashes of which the coin has the same number, the third not below a given one. */
    private static long[] sameNumber(long[] hashes, long leastThird) {
        long m = Forger.coinNumber(1, hashes);
        for (long third = leastThird; third < leastThird + 100000; third++) {
            long fourth = Forger.last(m, 0, 1, hashes[0], hashes[1], third);
            if (fourth >= third && fourth < 1L << 59) {
                return new long[] {hashes[0], hashes[1], third, fourth};
            }
        }
        throw new AssertionError("no pair hashes found");
    }

    /** The same words: what differs in the denomination alone, or in one P_j alone, is another coin. */
    private static void sameHashesOfOtherDenominations() {
        BlindMint mint = threePayments();
        long[] hashes = {1, 2, 3, 4};
        for (int d = 0; d < 3; d++) {
            Forger.write(mint, d, Forger.payment(d, hashes, 1, 2, VS));
            CHECK.due("deposit of denomination " + d, mint.deposit(d, 3), Forger.WORTH[d]);
        }
        for (int j = 0; j < 4; j++) {
            long[] others = {1, 2, 3, 4};
            others[j] = j == 3 ? 5 : others[j + 1];
            Forger.write(mint, 0, Forger.payment(0, others, 1, 2, VS));
            CHECK.due("deposit of a coin with another part " + j, mint.deposit(0, 3), 1);
        }
        CHECK.due("balance after seven deposits", mint.balance(3), 130);
    }

    /** One payment, tampered with in two parts, is coin after coin: no limit below the 512 calls may stop it. */
    private static void moreCoinsThanPayments() {
        BlindMint mint = threePayments();
        long[] hashes = {10, 20, 30, 1L << 57};
        Forger.write(mint, 0, Forger.payment(1, hashes, 1, onesFor(hashes), VS));
        int deposits = 0;
        for (int call = 30; call < 500; call += 4) {
            CHECK.due("deposit " + deposits, mint.deposit(0, 3), 5);
            deposits++;
            long[] next = sameNumber(hashes, hashes[2] + 1);
            for (int j = 2; j < 4; j++) {
                long z = Forger.part(true, next[j], VS[j])[2];
                long before = Forger.part(true, hashes[j], VS[j])[2];
                mint.tamper(0, 6 + 3 * j, z ^ before);
            }
            hashes = next;
        }
        CHECK.due("count(1) after many deposits", mint.count(1), deposits);
        CHECK.due("balance after many deposits", mint.balance(3), 100 + 5 * deposits);
        CHECK.due("many deposits", deposits > 100, true);
    }

    /** A nonce with which every part of the coin is told as for a bit that is 1. */
    private static long onesFor(long[] hashes) {
        return Forger.nonceFor(1, Forger.sign(Forger.coinNumber(1, hashes), 1), 15);
    }
}
