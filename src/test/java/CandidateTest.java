import java.util.ArrayList;
import java.util.List;

/** The terms of a coin's making: which candidates the mint opens, which cheat, and how a coin's parts stand. */
public final class CandidateTest {
    private static final Check CHECK = new Check();
    private static final int ACCOUNT = 2;

    public static void main(String[] args) {
        CHECK.each(
                CandidateTest::opensTwo,
                CandidateTest::everyOrderOfParts,
                CandidateTest::bitsOfCheats);
        CHECK.finish();
    }

    /** A seed for which the mint opens these two, when those of cheats cheat. */
    private static long seedThatOpens(int first, int second, int cheats) {
        for (long seed = 0; seed < 100000; seed++) {
            int[] pair = Forger.openedPair(Forger.candidates(seed, ACCOUNT, cheats));
            if (pair[0] == first && pair[1] == second) {
                return seed;
            }
        }
        throw new AssertionError("no seed found");
    }

    /**
     * "number t mod 6, and the number that is 1 + (t / 6, rounded down) mod 5 more than that, mod 6": each of the
     * thirty, those among them that go round from 5 to 0.
     */
    private static void opensTwo() {
        for (int first = 0; first < 6; first++) {
            for (int further = 1; further <= 5; further++) {
                int second = (first + further) % 6;
                int both = 1 << first | 1 << second;
                found(first, second, 0, 0);
                found(first, second, 1 << first, 1);
                found(first, second, 1 << second, 1);
                found(first, second, both, 2);
                found(first, second, 63, 2);
                found(first, second, 63 & ~both, 0);
            }
        }
    }

    private static void found(int first, int second, int cheats, int due) {
        long seed = seedThatOpens(first, second, cheats);
        String what = "opening " + first + " and " + second + " when those of " + cheats + " cheat";
        BlindMint mint = new BlindMint();
        CHECK.due("withdraw, " + what, Check.outcome(() -> mint.withdraw(ACCOUNT, 1, seed, cheats)),
                due == 0 ? "0" : "throws.IllegalStateException");
        CHECK.due("count(2), " + what, mint.count(2), due);
        CHECK.due("balance, " + what, mint.balance(ACCOUNT), due == 0 ? 95 : 99);
        if (due == 0) {
            List<long[]> candidates = Forger.candidates(seed, ACCOUNT, cheats);
            candidates.remove(Math.max(first, second));
            candidates.remove(Math.min(first, second));
            hasParts(what, mint, candidates);
        }
    }

    private static void hasParts(String what, BlindMint mint, List<long[]> due) {
        List<long[]> ordered = new ArrayList<>(due);
        ordered.sort((one, other) -> Long.compare(one[6], other[6]));
        List<long[]> told = Forger.learnParts(mint, ACCOUNT, 0);
        for (int j = 0; j < 4; j++) {
            for (int i = 0; i < 6; i++) {
                CHECK.due("number " + i + " of part " + j + ", " + what, told.get(j)[i], ordered.get(j)[i]);
            }
        }
    }

    /** "The four others, by growing pair hashes": in each of the orders in which the four can come. */
    private static void everyOrderOfParts() {
        List<String> seen = new ArrayList<>();
        for (long seed = 0; seed < 2000 && seen.size() < 24; seed++) {
            List<long[]> candidates = Forger.candidates(seed, ACCOUNT, 0);
            int opened = Forger.opened(candidates);
            List<long[]> others = new ArrayList<>();
            for (int j = 0; j < 6; j++) {
                if ((opened & 1 << j) == 0) {
                    others.add(candidates.get(j));
                }
            }
            String order = orderOf(others);
            if (!seen.contains(order)) {
                seen.add(order);
                BlindMint mint = new BlindMint();
                mint.withdraw(ACCOUNT, 0, seed, 0);
                hasParts("in the order " + order, mint, others);
            }
        }
        CHECK.due("the orders that were seen", seen.size(), 24);
    }

    /** How many of the others each pair hash exceeds. */
    private static String orderOf(List<long[]> parts) {
        StringBuilder order = new StringBuilder();
        for (long[] part : parts) {
            order.append(parts.stream().filter(other -> other[6] < part[6]).count());
        }
        return order.toString();
    }

    /** "those cheat whose bit of cheats is set", "B = A xor u, or A xor u xor 1 when it CHEATS". */
    private static void bitsOfCheats() {
        for (int account = 0; account < 4; account++) {
            for (int j = 0; j < 6; j++) {
                cheatsAlone(account, j);
            }
        }
    }

    private static void cheatsAlone(int account, int j) {
        int cheats = 1 << j;
        long seed = 0;
        while ((Forger.opened(Forger.candidates(seed, account, cheats)) & cheats) != 0) {
            seed++;
        }
        BlindMint mint = new BlindMint();
        mint.withdraw(account, 2, seed, cheats);
        long a = Forger.hash(seed, 3 * j);
        for (long[] part : Forger.learnParts(mint, account, 0)) {
            long hidden = part[0] == a ? 1000 + account ^ 1 : 1000 + account;
            CHECK.due("A xor B when candidate " + j + " of account " + account + " cheats", part[0] ^ part[3], hidden);
        }
    }
}
