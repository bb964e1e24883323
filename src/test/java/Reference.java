import java.util.ArrayList;
import java.util.Arrays;
import java.util.List;
import java.util.NoSuchElementException;

/** The document again, written as plainly as the Java library allows, to compare the class with. */
final class Reference {
    private static final class Coin {
        int denomination;
        long number;
        long signature;
        boolean spent;
        List<long[]> parts;
    }

    private final int[] balances = {100, 100, 100, 100};
    private final List<List<Coin>> wallets = new ArrayList<>();
    private final List<long[]> payments = new ArrayList<>();
    private final List<long[]> deposited = new ArrayList<>();
    private final int[] counts = new int[4];
    private int traced = -1;
    private long blinded = -1;

    Reference() {
        for (int a = 0; a < 4; a++) {
            wallets.add(new ArrayList<>());
        }
    }

    int withdraw(int account, int denomination, long seed, int cheats) {
        if (account < 0 || account > 3 || denomination < 0 || denomination > 2 || cheats < 0 || cheats > 63) {
            throw new IllegalArgumentException();
        }
        if (balances[account] < Forger.WORTH[denomination] || wallets.get(account).size() == 8) {
            throw new IllegalStateException();
        }
        List<long[]> candidates = Forger.candidates(seed, account, cheats);
        int found = Integer.bitCount(cheats & Forger.opened(candidates));
        if (found > 0) {
            balances[account]--;
            counts[2] += found;
            throw new IllegalStateException();
        }
        Coin coin = new Coin();
        coin.parts = Forger.parts(candidates);
        coin.denomination = denomination;
        coin.number = Forger.coinNumber(denomination, Forger.pairHashes(coin.parts));
        coin.signature = Forger.sign(coin.number, denomination);
        blinded = Forger.blind(coin.number, Forger.blindingFactor(seed, denomination), denomination);
        wallets.get(account).add(coin);
        balances[account] -= Forger.WORTH[denomination];
        counts[0]++;
        return wallets.get(account).size() - 1;
    }

    int choose(int account, int amount) {
        if (account < 0 || account > 3 || amount < 1) {
            throw new IllegalArgumentException();
        }
        List<Coin> wallet = wallets.get(account);
        List<Integer> order = new ArrayList<>();
        for (int i = 0; i < wallet.size(); i++) {
            order.add(i);
        }
        order.sort((i, k) -> wallet.get(k).denomination - wallet.get(i).denomination);
        int sum = 0;
        int bits = 0;
        for (int i : order) {
            int worth = Forger.WORTH[wallet.get(i).denomination];
            if (!wallet.get(i).spent && (long) sum + worth <= amount) {
                sum += worth;
                bits += 1 << i;
            }
        }
        if (sum != amount) {
            throw new NoSuchElementException();
        }
        return bits;
    }

    int spend(int account, int coin, int merchant, int nonce) {
        if (!hasCoin(account, coin)) {
            throw new IllegalArgumentException();
        }
        if (payments.size() == 20) {
            throw new IllegalStateException();
        }
        Coin paid = wallets.get(account).get(coin);
        paid.spent = true;
        long[] numbers = new long[16];
        numbers[0] = paid.denomination;
        numbers[1] = paid.signature;
        numbers[2] = merchant;
        numbers[3] = nonce;
        for (int j = 0; j < 4; j++) {
            int from = bit(numbers, j) ? 0 : 3;
            System.arraycopy(paid.parts.get(j), from, numbers, 4 + 3 * j, 3);
        }
        payments.add(numbers);
        return payments.size() - 1;
    }

    private static boolean bit(long[] payment, int j) {
        return (Forger.hash(payment[2], payment[3], payment[1]) & 1L << j) != 0;
    }

    long tamper(int p, int i, long mask) {
        if (p < 0 || p >= payments.size() || i < 0 || i > 15) {
            throw new IllegalArgumentException();
        }
        payments.get(p)[i] ^= mask;
        return payments.get(p)[i];
    }

    long number(int p, int i) {
        if (p < 0 || p >= payments.size() || i < 0 || i > 15) {
            throw new NoSuchElementException();
        }
        return payments.get(p)[i];
    }

    private static long[] pairHashes(long[] payment) {
        long[] hashes = new long[4];
        for (int j = 0; j < 4; j++) {
            long opened = Forger.hash(payment[4 + 3 * j], payment[5 + 3 * j]);
            long closed = payment[6 + 3 * j];
            hashes[j] = bit(payment, j) ? Forger.hash(opened, closed) : Forger.hash(closed, opened);
        }
        return hashes;
    }

    boolean good(int p) {
        if (p < 0 || p >= payments.size()) {
            return false;
        }
        long[] payment = payments.get(p);
        if (payment[0] != 0 && payment[0] != 1 && payment[0] != 2) {
            return false;
        }
        int denomination = (int) payment[0];
        if (payment[1] < 0 || payment[1] >= Forger.modulus(denomination).longValueExact()) {
            return false;
        }
        long[] hashes = pairHashes(payment);
        long[] sorted = hashes.clone();
        Arrays.sort(sorted);
        return Arrays.equals(sorted, hashes)
                && Forger.raise(payment[1], denomination) == Forger.coinNumber(denomination, hashes);
    }

    int deposit(int p, int account) {
        if (account < 0 || account > 3 || !good(p)) {
            throw new IllegalArgumentException();
        }
        long[] payment = payments.get(p);
        for (long[] before : deposited) {
            if (before[0] == payment[0] && Arrays.equals(pairHashes(before), pairHashes(payment))) {
                counts[3]++;
                traced = trace(before, payment);
                throw new IllegalStateException();
            }
        }
        deposited.add(payment.clone());
        counts[1]++;
        balances[account] += Forger.WORTH[(int) payment[0]];
        return Forger.WORTH[(int) payment[0]];
    }

    private static int trace(long[] before, long[] payment) {
        for (int j = 0; j < 4; j++) {
            if (bit(before, j) != bit(payment, j)) {
                long identity = before[4 + 3 * j] ^ payment[4 + 3 * j];
                return identity >= 1000 && identity <= 1003 ? (int) (identity - 1000) : -1;
            }
        }
        return -1;
    }

    int traced() {
        return traced;
    }

    int balance(int account) {
        if (account < 0 || account > 3) {
            throw new IllegalArgumentException();
        }
        return balances[account];
    }

    int coins(int account) {
        return account < 0 || account > 3 ? -1 : wallets.get(account).size();
    }

    private boolean hasCoin(int account, int coin) {
        return account >= 0 && account <= 3 && coin >= 0 && coin < wallets.get(account).size();
    }

    long coin(int account, int coin) {
        if (!hasCoin(account, coin)) {
            throw new NoSuchElementException();
        }
        return wallets.get(account).get(coin).number;
    }

    long signature(int account, int coin) {
        if (!hasCoin(account, coin)) {
            throw new NoSuchElementException();
        }
        return wallets.get(account).get(coin).signature;
    }

    long blinded() {
        return blinded;
    }

    int count(int what) {
        return what < 0 || what > 3 ? -1 : counts[what];
    }
}
