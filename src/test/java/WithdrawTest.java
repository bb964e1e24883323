/** Promise 2: withdraw. */
public final class WithdrawTest {
    private static final Check CHECK = new Check();

    public static void main(String[] args) {
        CHECK.each(
                WithdrawTest::numbersOfCoins,
                WithdrawTest::lessByItsWorth,
                WithdrawTest::noSuchAccount,
                WithdrawTest::noSuchDenomination,
                WithdrawTest::cheatsOutOfRange,
                WithdrawTest::justEnoughAndOneTooLittle,
                WithdrawTest::nothingLeft,
                WithdrawTest::sevenCoinsAndEight,
                WithdrawTest::spentCoinsFillTheWallet,
                WithdrawTest::foundCheatChangesThisAlone,
                WithdrawTest::foundCheatTakesTheLast,
                WithdrawTest::foundCheatTakesOneOfEveryWorth,
                WithdrawTest::everySetOfCheats,
                WithdrawTest::argumentsBeforeState,
                WithdrawTest::poorOrFullBeforeCheats);
        CHECK.finish();
    }

    /** Account 1 has this much left: it withdrew coins of 20 as long as it could, and cheated for the rest. */
    private static BlindMint having(int balance) {
        BlindMint mint = new BlindMint();
        for (int i = 0; i < 5 && mint.balance(1) >= balance + 20; i++) {
            mint.withdraw(1, 2, i, 0);
        }
        for (int i = 0; i < 40 && mint.balance(1) > balance; i++) {
            Check.outcome(() -> mint.withdraw(1, 0, 1, 63));
        }
        return mint;
    }

    private static BlindMint withCoins(int account, int coins) {
        BlindMint mint = new BlindMint();
        for (int i = 0; i < coins; i++) {
            mint.withdraw(account, 0, 100 + i, 0);
        }
        return mint;
    }

    /** "Answers the number of the coin in the wallet (from 0)." */
    private static void numbersOfCoins() {
        for (int account = 0; account < 4; account++) {
            BlindMint mint = withCoins(3 - account, 2);
            for (int i = 0; i < 8; i++) {
                CHECK.due("coin " + i + " of account " + account, mint.withdraw(account, 0, 40 + i, 0), i);
                CHECK.due("the coins then", mint.coins(account), i + 1);
            }
        }
    }

    /** "The account has less by what the coin is worth." */
    private static void lessByItsWorth() {
        BlindMint mint = new BlindMint();
        int[] balances = {80, 75, 74};
        for (int i = 0; i < 3; i++) {
            mint.withdraw(2, 2 - i, 40 + i, 0);
            CHECK.due("the balance after coin " + i, mint.balance(2), balances[i]);
            CHECK.due("the coins withdrawn", mint.count(0), i + 1);
        }
        for (int other : new int[] {0, 1, 3}) {
            CHECK.due("the balance of an account that withdrew nothing", mint.balance(other), 100);
        }
    }

    /** "IllegalArgumentException, when there is no such account": 0 .. 3 are there. */
    private static void noSuchAccount() {
        for (int account = 0; account < 4; account++) {
            CHECK.due("withdraw by account " + account, new BlindMint().withdraw(account, 0, 1, 0), 0);
        }
        for (int odd : Check.NO_ACCOUNTS) {
            CHECK.refusedUnchanged("withdraw by account " + odd, Check.ARGUMENT, () -> withCoins(0, 1),
                    mint -> mint.withdraw(odd, 0, 1, 0));
        }
    }

    /** "no such account or denomination": 0 .. 2 are there. */
    private static void noSuchDenomination() {
        for (int d = 0; d < 3; d++) {
            CHECK.due("withdraw of denomination " + d, new BlindMint().withdraw(0, d, 1, 0), 0);
        }
        for (int odd : new int[] {-1, 3, Integer.MIN_VALUE, Integer.MAX_VALUE}) {
            CHECK.refusedUnchanged("withdraw of denomination " + odd, Check.ARGUMENT, () -> withCoins(0, 1),
                    mint -> mint.withdraw(0, odd, 1, 0));
        }
    }

    /** "or cheats is not 0 .. 63": 0 is no cheat at all, 63 is taken and found out. */
    private static void cheatsOutOfRange() {
        CHECK.due("withdraw with cheats 0", new BlindMint().withdraw(0, 0, 1, 0), 0);
        CHECK.refused("withdraw with cheats 63", Check.STATE, () -> new BlindMint().withdraw(0, 0, 1, 63));
        for (int odd : new int[] {-1, 64, 64 + 63, Integer.MIN_VALUE, Integer.MAX_VALUE}) {
            CHECK.refusedUnchanged("withdraw with cheats " + odd, Check.ARGUMENT, () -> withCoins(0, 1),
                    mint -> mint.withdraw(0, 0, 1, odd));
        }
    }

    /** "when the account has less than the coin is worth": all that it has will do, one less will not. */
    private static void justEnoughAndOneTooLittle() {
        for (int d = 0; d < 3; d++) {
            int denomination = d;
            int worth = Forger.WORTH[d];
            for (int more = 0; more < 2; more++) {
                BlindMint mint = having(worth + more);
                int number = mint.coins(1);
                CHECK.due("withdraw of " + worth + " from " + more + " more", mint.withdraw(1, d, 7, 0), number);
                CHECK.due("what is left then", mint.balance(1), more);
            }
            CHECK.refusedUnchanged("withdraw of " + worth + " from one less", Check.STATE,
                    () -> having(worth - 1), poor -> poor.withdraw(1, denomination, 7, 0));
        }
    }

    /** The same sentence, for an account with nothing. */
    private static void nothingLeft() {
        for (int d = 0; d < 3; d++) {
            int denomination = d;
            CHECK.refusedUnchanged("withdraw of denomination " + d + " from nothing", Check.STATE,
                    () -> having(0), mint -> mint.withdraw(1, denomination, 7, 0));
        }
        CHECK.due("withdraw by another account", having(0).withdraw(0, 2, 7, 0), 0);
    }

    /** "its wallet has eight coins": the eighth is taken, the ninth is not. */
    private static void sevenCoinsAndEight() {
        CHECK.due("the eighth coin", withCoins(0, 7).withdraw(0, 2, 108, 0), 7);
        for (int d = 0; d < 3; d++) {
            int denomination = d;
            CHECK.refusedUnchanged("the ninth coin, of denomination " + d, Check.STATE, () -> withCoins(0, 8),
                    mint -> mint.withdraw(0, denomination, 108, 0));
        }
        CHECK.due("a coin for another wallet", withCoins(0, 8).withdraw(1, 0, 108, 0), 0);
    }

    private static BlindMint fullOfSpentCoins() {
        BlindMint mint = withCoins(0, 8);
        for (int i = 0; i < 8; i++) {
            mint.deposit(mint.spend(0, i, 1, 1), 0);
        }
        return mint;
    }

    /** The same sentence: a coin that was spent, and deposited, is in the wallet as before. */
    private static void spentCoinsFillTheWallet() {
        CHECK.due("the coins of a wallet that were spent", fullOfSpentCoins().coins(0), 8);
        CHECK.refusedUnchanged("the ninth coin when all were spent", Check.STATE, WithdrawTest::fullOfSpentCoins,
                mint -> mint.withdraw(0, 0, 108, 0));
    }

    /** An object on which every question has an answer of its own. */
    private static BlindMint used() {
        BlindMint mint = withCoins(3, 7);
        mint.spend(3, 0, 1, Forger.nonceFor(1, mint.signature(3, 0), 2));
        mint.spend(3, 0, 1, Forger.nonceFor(1, mint.signature(3, 0), 3));
        mint.deposit(0, 1);
        Check.outcome(() -> mint.deposit(1, 1));
        return mint;
    }

    /** "(the account has 1 less then, and those that it opened and that cheat are counted)" */
    private static void foundCheatChangesThisAlone() {
        CHECK.due("the account that was traced", used().traced(), 3);
        CHECK.refusedChanging("withdraw where all cheat", Check.STATE, WithdrawTest::used,
                mint -> mint.withdraw(3, 2, 5, 63), "balance(3): 92", "count(2): 2");
        int cheats = Forger.opened(Forger.candidates(5, 0, 0)) & -Forger.opened(Forger.candidates(5, 0, 0));
        long seed = 5;
        while (Integer.bitCount(Forger.opened(Forger.candidates(seed, 0, cheats)) & cheats) != 1) {
            seed++;
        }
        long found = seed;
        CHECK.refusedChanging("withdraw where one cheats and is opened", Check.STATE, WithdrawTest::used,
                mint -> mint.withdraw(0, 1, found, cheats), "balance(0): 99", "count(2): 1");
    }

    /** The same words: an account with 1 has 0 then, and is too poor for the next. */
    private static void foundCheatTakesTheLast() {
        String found = "count(2): " + (having(1).count(2) + 2);
        CHECK.refusedChanging("withdraw of 1 from 1 where all cheat", Check.STATE, () -> having(1),
                mint -> mint.withdraw(1, 0, 5, 63), "balance(1): 0", found);
        BlindMint mint = new BlindMint();
        for (int i = 0; i < 100; i++) {
            CHECK.refused("withdraw where all cheat", Check.STATE, () -> mint.withdraw(0, 0, 5, 63));
            CHECK.due("the balance then", mint.balance(0), 99 - i);
        }
        CHECK.due("the cheats found", mint.count(2), 200);
        CHECK.refused("withdraw from nothing where all cheat", Check.STATE, () -> mint.withdraw(0, 0, 5, 63));
        CHECK.due("the balance is not below 0", mint.balance(0), 0);
        CHECK.due("the cheats found are no more", mint.count(2), 200);
    }

    /** The same words: it is 1 whatever the coin is worth, and then there is one too little for that coin. */
    private static void foundCheatTakesOneOfEveryWorth() {
        for (int d = 0; d < 3; d++) {
            int worth = Forger.WORTH[d];
            int denomination = d;
            BlindMint mint = having(worth);
            CHECK.refused("withdraw where all cheat", Check.STATE, () -> mint.withdraw(1, denomination, 5, 63));
            CHECK.due("the balance after a cheat with denomination " + d, mint.balance(1), worth - 1);
            CHECK.refused("an honest withdraw then", Check.STATE, () -> mint.withdraw(1, denomination, 5, 0));
            CHECK.due("the balance after that", mint.balance(1), worth - 1);
        }
    }

    /** "a candidate that the mint opens cheats": a cheat that it does not open is not found. */
    private static void everySetOfCheats() {
        for (int cheats = 0; cheats < 64; cheats++) {
            int set = cheats;
            BlindMint mint = new BlindMint();
            long seed = 1000 + cheats;
            int found = Integer.bitCount(cheats & Forger.opened(Forger.candidates(seed, 3, cheats)));
            String due = found == 0 ? "0" : "throws.IllegalStateException";
            String what = "withdraw with cheats " + cheats;
            CHECK.due(what, Check.outcome(() -> mint.withdraw(3, 1, seed, set)), due);
            CHECK.due("balance after " + what, mint.balance(3), found == 0 ? 95 : 99);
            CHECK.due("coins after " + what, mint.coins(3), found == 0 ? 1 : 0);
            CHECK.due("count(0) after " + what, mint.count(0), found == 0 ? 1 : 0);
            CHECK.due("count(2) after " + what, mint.count(2), found);
        }
    }

    /** "What it throws is tested in the order in which it stands there." */
    private static void argumentsBeforeState() {
        CHECK.refusedUnchanged("a wrong denomination for a full wallet", Check.ARGUMENT, () -> withCoins(0, 8),
                mint -> mint.withdraw(0, 3, 108, 0));
        CHECK.refusedUnchanged("wrong cheats for a full wallet", Check.ARGUMENT, () -> withCoins(0, 8),
                mint -> mint.withdraw(0, 0, 108, 64));
        CHECK.refusedUnchanged("a wrong denomination from nothing", Check.ARGUMENT, () -> having(0),
                mint -> mint.withdraw(1, -1, 108, 0));
        CHECK.refusedUnchanged("wrong cheats from nothing", Check.ARGUMENT, () -> having(0),
                mint -> mint.withdraw(1, 0, 108, -1));
        CHECK.refusedUnchanged("a wrong denomination where all cheat", Check.ARGUMENT, () -> withCoins(0, 1),
                mint -> mint.withdraw(0, 3, 108, 63));
        CHECK.refusedUnchanged("a wrong account where all cheat", Check.ARGUMENT, () -> withCoins(0, 1),
                mint -> mint.withdraw(4, 0, 108, 63));
    }

    /** The same: who is too poor, or has a full wallet, is refused before the mint opens a candidate. */
    private static void poorOrFullBeforeCheats() {
        for (int d = 0; d < 3; d++) {
            int denomination = d;
            CHECK.refusedUnchanged("withdraw of denomination " + d + " from too little where all cheat",
                    Check.STATE, () -> having(Forger.WORTH[denomination] - 1),
                    mint -> mint.withdraw(1, denomination, 7, 63));
            CHECK.refusedUnchanged("the ninth coin where all cheat", Check.STATE, () -> withCoins(0, 8),
                    mint -> mint.withdraw(0, denomination, 108, 63));
        }
        CHECK.refusedChanging("the eighth coin where all cheat", Check.STATE, () -> withCoins(0, 7),
                mint -> mint.withdraw(0, 0, 108, 63), "balance(0): 92", "count(2): 2");
    }
}
