/** Promise 2: withdraw. */
public final class WithdrawTest {
    private static final Check CHECK = new Check();

    public static void main(String[] args) {
        ordinary();
        wrongArguments();
        tooPoor();
        fullWallet();
        argumentsBeforeState();
        everySetOfCheats();
        cheatsThatAreFound();
        CHECK.finish();
    }

    private static void ordinary() {
        BlindMint mint = new BlindMint();
        int[] balances = {80, 75, 74};
        for (int i = 0; i < 3; i++) {
            CHECK.due("the number of coin " + i, mint.withdraw(2, 2 - i, 40 + i, 0), i);
            CHECK.due("the balance after coin " + i, mint.balance(2), balances[i]);
            CHECK.due("the coins after coin " + i, mint.coins(2), i + 1);
        }
        CHECK.due("the first coin of another wallet", mint.withdraw(3, 0, 40, 0), 0);
        CHECK.due("the coins withdrawn", mint.count(0), 4);
        CHECK.due("an account that withdrew nothing", mint.balance(0), 100);
    }

    private static BlindMint oneCoin() {
        BlindMint mint = new BlindMint();
        mint.withdraw(0, 1, 9, 0);
        return mint;
    }

    private static void wrongArguments() {
        for (int odd : new int[] {-1, 4, Integer.MIN_VALUE, Integer.MAX_VALUE}) {
            refused("account " + odd, odd, 0, 0);
        }
        for (int odd : new int[] {-1, 3, Integer.MIN_VALUE, Integer.MAX_VALUE}) {
            refused("denomination " + odd, 0, odd, 0);
        }
        for (int odd : new int[] {-1, 64, Integer.MIN_VALUE, Integer.MAX_VALUE}) {
            refused("cheats " + odd, 0, 0, odd);
        }
    }

    private static void refused(String what, int account, int denomination, int cheats) {
        CHECK.refusedUnchanged("withdraw with " + what, Check.ARGUMENT, WithdrawTest::oneCoin,
                mint -> mint.withdraw(account, denomination, 1, cheats));
    }

    /** Account 1 has eight coins, and 4 left. */
    private static BlindMint fullAndPoor() {
        BlindMint mint = new BlindMint();
        for (int i = 0; i < 4; i++) {
            mint.withdraw(1, 2, i, 0);
        }
        for (int i = 0; i < 3; i++) {
            mint.withdraw(1, 1, 10 + i, 0);
        }
        mint.withdraw(1, 0, 20, 0);
        return mint;
    }

    private static BlindMint penniless() {
        BlindMint mint = new BlindMint();
        for (int i = 0; i < 5; i++) {
            mint.withdraw(1, 2, i, 0);
        }
        return mint;
    }

    private static void tooPoor() {
        BlindMint mint = new BlindMint();
        for (int i = 0; i < 4; i++) {
            mint.withdraw(1, 2, i, 0);
        }
        CHECK.due("a coin of all that is left", mint.withdraw(1, 2, 4, 0), 4);
        CHECK.due("what is left then", mint.balance(1), 0);
        for (int d = 0; d < 3; d++) {
            int denomination = d;
            CHECK.refusedUnchanged("withdraw of denomination " + d + " from nothing", Check.STATE,
                    WithdrawTest::penniless, x -> x.withdraw(1, denomination, 7, 0));
        }
        CHECK.refusedUnchanged("withdraw of 1 from nothing by a cheat", Check.STATE,
                WithdrawTest::penniless, x -> x.withdraw(1, 0, 7, 63));
        CHECK.refusedUnchanged("withdraw of 20 from 19", Check.STATE,
                WithdrawTest::nineteen, x -> x.withdraw(1, 2, 7, 0));
        CHECK.due("withdraw of 5 from 19", nineteen().withdraw(1, 1, 7, 0), 5);
    }

    private static BlindMint nineteen() {
        BlindMint mint = new BlindMint();
        for (int i = 0; i < 4; i++) {
            mint.withdraw(1, 2, i, 0);
        }
        mint.withdraw(1, 0, 4, 0);
        return mint;
    }

    private static BlindMint fullOfOnes() {
        BlindMint mint = new BlindMint();
        for (int i = 0; i < 8; i++) {
            mint.withdraw(0, 0, 100 + i, 0);
        }
        return mint;
    }

    private static void fullWallet() {
        CHECK.due("coins of a full wallet", fullOfOnes().coins(0), 8);
        CHECK.refusedUnchanged("the ninth coin", Check.STATE, WithdrawTest::fullOfOnes,
                mint -> mint.withdraw(0, 0, 108, 0));
        CHECK.refusedUnchanged("the ninth coin of a cheat", Check.STATE, WithdrawTest::fullOfOnes,
                mint -> mint.withdraw(0, 0, 108, 63));
        CHECK.refusedUnchanged("the ninth coin of a poor account", Check.STATE, WithdrawTest::fullAndPoor,
                mint -> mint.withdraw(1, 0, 108, 0));
        BlindMint mint = fullOfOnes();
        mint.spend(0, 0, 1, 1);
        mint.deposit(0, 0);
        CHECK.refused("the ninth coin after one was spent", Check.STATE, () -> mint.withdraw(0, 0, 108, 0));
        CHECK.due("a coin for another wallet", mint.withdraw(1, 0, 108, 0), 0);
    }

    private static void argumentsBeforeState() {
        CHECK.refused("a wrong denomination for a full wallet", Check.ARGUMENT,
                () -> fullOfOnes().withdraw(0, 3, 108, 0));
        CHECK.refused("wrong cheats of an account with nothing", Check.ARGUMENT,
                () -> penniless().withdraw(1, 0, 108, 64));
    }

    private static void everySetOfCheats() {
        for (int cheats = 0; cheats < 64; cheats++) {
            int set = cheats;
            BlindMint mint = new BlindMint();
            long seed = 1000 + cheats;
            int found = Integer.bitCount(cheats & Forger.opened(Forger.candidates(seed, 3, cheats)));
            String due = found == 0 ? "0" : "throws.IllegalStateException";
            String what = "withdraw with cheats " + cheats;
            CHECK.due(what, Check.outcome(() -> mint.withdraw(3, 1, seed, set)), due);
            CHECK.due("balance after " + what, mint.balance(3), found == 0 ? 95 : 99);
            CHECK.due("coins after " + what, mint.coins(3), found == 0 ? 1 : 0);
            CHECK.due("count(0) after " + what, mint.count(0), found == 0 ? 1 : 0);
            CHECK.due("count(2) after " + what, mint.count(2), found);
        }
    }

    private static void cheatsThatAreFound() {
        BlindMint mint = oneCoin();
        long blinded = mint.blinded();
        for (int i = 0; i < 3; i++) {
            int seed = i;
            CHECK.refused("withdraw where all cheat", Check.STATE, () -> mint.withdraw(0, 2, seed, 63));
        }
        CHECK.due("the balance after three fines", mint.balance(0), 92);
        CHECK.due("the cheats found", mint.count(2), 6);
        CHECK.due("blinded() after a refused coin", mint.blinded(), blinded);
        CHECK.due("an honest coin after that", mint.withdraw(0, 2, 0, 0), 1);
    }
}
