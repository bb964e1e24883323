import java.util.NoSuchElementException;

/**
 * Electronic money after Chaum, Fiat and Naor: a mint signs coins without seeing them, and finds out
 * who spent one twice.
 */
public final class BlindMint {
    public static final int NONE = -1;

    private static final int ACCOUNTS = 4;
    private static final int FIRST_IDENTITY = 1000;
    private static final int FIRST_BALANCE = 100;
    private static final int FINE = 1;
    private static final int WALLET_COINS = 8;
    private static final int PAYMENTS = 20;
    private static final int CANDIDATES = 6;
    private static final int ALL_CHEAT = (1 << CANDIDATES) - 1;
    private static final int PARTS = 4;
    private static final int BLINDING_DRAW = 100;
    /** An object is used for at most so many calls, so no more deposits are ever due. */
    private static final int DEPOSITS = 512;

    private static final Denomination[] DENOMINATIONS = Denomination.values();

    private final Account[] accounts = new Account[ACCOUNTS];
    private final Proposal proposal = new Proposal();
    private final Payment[] payments = new Payment[PAYMENTS];
    private int paymentCount = 0;
    /** The pair hashes of the coin at hand, a row that the calls use again. */
    private final long[] pairHashes = new long[PARTS];
    private Credit lastCredit = null;
    private int lastTraced = NONE;
    private long lastBlinded = NONE;
    private int withdrawnCoins = 0;
    private int depositedCoins = 0;
    private int foundCheats = 0;
    private int repeatedDeposits = 0;

    public BlindMint() {
        for (int a = 0; a < ACCOUNTS; a++) {
            accounts[a] = new Account();
        }
    }

    public int withdraw(int account, int denomination, long seed, int cheats)
            throws IllegalArgumentException, IllegalStateException {
        if (!isAccount(account) || !isDenomination(denomination) || cheats < 0 || cheats > ALL_CHEAT) {
            throw new IllegalArgumentException();
        }
        Account owner = accounts[account];
        int worth = DENOMINATIONS[denomination].worth;
        if (owner.balance < worth || owner.isWalletFull()) {
            throw new IllegalStateException();
        }
        long identity = FIRST_IDENTITY + account;
        proposal.make(seed, identity, cheats);
        int found = proposal.openedCheats(identity);
        if (found > 0) {
            owner.balance -= FINE;
            foundCheats += found;
            throw new IllegalStateException();
        }
        owner.balance -= worth;
        withdrawnCoins++;
        return owner.keep(makeCoin(denomination, seed));
    }

    public int choose(int account, int amount) throws IllegalArgumentException, NoSuchElementException {
        if (!isAccount(account) || amount < 1) {
            throw new IllegalArgumentException();
        }
        Account owner = accounts[account];
        int taken = 0;
        int left = amount;
        for (int d = DENOMINATIONS.length - 1; d >= 0; d--) {
            int worth = DENOMINATIONS[d].worth;
            for (int i = 0; i < owner.coinCount; i++) {
                if (owner.hasUnspent(i, d) && worth <= left) {
                    taken |= 1 << i;
                    left -= worth;
                }
            }
        }
        if (left != 0) {
            throw new NoSuchElementException();
        }
        return taken;
    }

    public int spend(int account, int coin, int merchant, int nonce)
            throws IllegalArgumentException, IllegalStateException {
        Coin paid = findCoin(account, coin);
        if (paid == null) {
            throw new IllegalArgumentException();
        }
        if (paymentCount >= PAYMENTS) {
            throw new IllegalStateException();
        }
        paid.spent = true;
        payments[paymentCount] = new Payment(paid, merchant, nonce);
        paymentCount++;
        return paymentCount - 1;
    }

    public long tamper(int p, int i, long mask) throws IllegalArgumentException {
        Payment payment = findPayment(p);
        if (payment == null || !Payment.hasNumber(i)) {
            throw new IllegalArgumentException();
        }
        payment.numbers[i] ^= mask;
        return payment.numbers[i];
    }

    public long number(int p, int i) throws NoSuchElementException {
        Payment payment = findPayment(p);
        if (payment == null || !Payment.hasNumber(i)) {
            throw new NoSuchElementException();
        }
        return payment.numbers[i];
    }

    public boolean good(int p) {
        Payment payment = findPayment(p);
        return payment != null && isGood(payment);
    }

    public int deposit(int p, int account) throws IllegalArgumentException, IllegalStateException {
        Payment payment = findPayment(p);
        if (!isAccount(account) || payment == null || !isGood(payment)) {
            throw new IllegalArgumentException();
        }
        Credit earlier = findCredit(payment.denomination());
        if (earlier != null) {
            repeatedDeposits++;
            lastTraced = accountOf(earlier.revealedIdentity(payment));
            throw new IllegalStateException();
        }
        if (depositedCoins >= DEPOSITS) {
            throw new IllegalStateException();
        }
        lastCredit = new Credit(payment, pairHashes.clone(), lastCredit);
        depositedCoins++;
        int worth = DENOMINATIONS[(int) payment.denomination()].worth;
        accounts[account].balance += worth;
        return worth;
    }

    public int traced() {
        return lastTraced;
    }

    public int balance(int account) throws IllegalArgumentException {
        if (!isAccount(account)) {
            throw new IllegalArgumentException();
        }
        return accounts[account].balance;
    }

    public int coins(int account) {
        return isAccount(account) ? accounts[account].coinCount : NONE;
    }

    public long coin(int account, int coin) throws NoSuchElementException {
        Coin found = findCoin(account, coin);
        if (found == null) {
            throw new NoSuchElementException();
        }
        return found.number;
    }

    public long signature(int account, int coin) throws NoSuchElementException {
        Coin found = findCoin(account, coin);
        if (found == null) {
            throw new NoSuchElementException();
        }
        return found.signature;
    }

    public long blinded() {
        return lastBlinded;
    }

    public int count(int what) {
        switch (what) {
            case 0:
                return withdrawnCoins;
            case 1:
                return depositedCoins;
            case 2:
                return foundCheats;
            case 3:
                return repeatedDeposits;
            default:
                return NONE;
        }
    }

    private static boolean isAccount(int account) {
        return account >= 0 && account < ACCOUNTS;
    }

    private static boolean isDenomination(long denomination) {
        return denomination >= 0 && denomination < DENOMINATIONS.length;
    }

    private static boolean isOne(long bits, int i) {
        return (bits >> i & 1) == 1;
    }

    private static int accountOf(long identity) {
        boolean known = identity >= FIRST_IDENTITY && identity < FIRST_IDENTITY + ACCOUNTS;
        return known ? (int) identity - FIRST_IDENTITY : NONE;
    }

    private Coin findCoin(int account, int coin) {
        if (!isAccount(account) || coin < 0 || coin >= accounts[account].coinCount) {
            return null;
        }
        return accounts[account].wallet[coin];
    }

    private Payment findPayment(int p) {
        return p >= 0 && p < paymentCount ? payments[p] : null;
    }

    /** Makes a coin of the parts that the proposal has now, and has the mint sign it blinded. */
    private Coin makeCoin(int denomination, long seed) {
        Denomination kind = DENOMINATIONS[denomination];
        proposal.readPairHashes(pairHashes);
        long m = Hash.ofCoin(denomination, pairHashes);
        long r = kind.blindingFactor(Hash.of(seed, BLINDING_DRAW));
        lastBlinded = kind.blind(m, r);
        long answer = kind.sign(lastBlinded);
        return new Coin(denomination, m, kind.unblind(answer, r), proposal.parts);
    }

    /** Leaves the payment's pair hashes in their row, for the search of its coin. */
    private boolean isGood(Payment payment) {
        if (!isDenomination(payment.denomination())) {
            return false;
        }
        payment.readPairHashes(pairHashes);
        for (int j = 1; j < PARTS; j++) {
            if (pairHashes[j] < pairHashes[j - 1]) {
                return false;
            }
        }
        long m = Hash.ofCoin(payment.denomination(), pairHashes);
        return DENOMINATIONS[(int) payment.denomination()].isSignature(payment.signatureNumber(), m);
    }

    /** The deposit of the coin whose pair hashes stand in their row; null when there was none. */
    private Credit findCredit(long denomination) {
        for (Credit credit = lastCredit; credit != null; credit = credit.before) {
            if (credit.isOf(denomination, pairHashes)) {
                return credit;
            }
        }
        return null;
    }

    /** HASH, taken in step by step, so that no row is made for its numbers. */
    private static final class Hash {
        static final long START = 7;
        private static final long FACTOR = 6364136223846793005L;
        private static final long ADDEND = 1442695040888963407L;
        private static final long LOW_BITS = (1L << 59) - 1;

        static long step(long h, long v) {
            long mixed = (h ^ v) * FACTOR + ADDEND;
            return mixed ^ (mixed >>> 29);
        }

        static long end(long h) {
            return h & LOW_BITS;
        }

        static long of(long v, long w) {
            return end(step(step(START, v), w));
        }

        static long ofCoin(long denomination, long[] pairHashes) {
            long h = step(START, denomination);
            for (long pairHash : pairHashes) {
                h = step(h, pairHash);
            }
            return end(h);
        }
    }

    /** Arithmetic modulo primes below 2^30, whose products fit a long. */
    private static final class Field {
        private static final int PRIME_BITS = 30;

        static long multiply(long a, long b, long prime) {
            return (a % prime) * (b % prime) % prime;
        }

        static long power(long base, long exponent, long prime) {
            long square = base % prime;
            long answer = 1;
            for (int bit = 0; bit < PRIME_BITS; bit++) {
                if (isOne(exponent, bit)) {
                    answer = answer * square % prime;
                }
                square = square * square % prime;
            }
            return answer;
        }

        static long divide(long a, long b, long prime) {
            return multiply(a, power(b, prime - 2, prime), prime);
        }

        static long root(long a, long e, long prime) {
            return power(a, rootExponent(e, prime), prime);
        }

        /** The inverse of e modulo prime - 1: raising to it undoes raising to e, by Fermat. */
        private static long rootExponent(long e, long prime) {
            for (long k = 1; k < e; k++) {
                long multiple = 1 + k * (prime - 1);
                if (multiple % e == 0) {
                    return multiple / e;
                }
            }
            return 1;
        }
    }

    /**
     * What a kind of coin is worth, and the mint's key for it. The key's owner knows the two primes:
     * each number is worked on modulo the one and the other, and the remainders are joined.
     */
    private enum Denomination {
        ONE(1, 1073741789L, 1000000007L),
        FIVE(5, 998244389L, 900000011L),
        TWENTY(20, 1050000041L, 1020000011L);

        private static final long EXPONENT = 17;
        /** Each prime divides at most one of three numbers in a row, so one of them is free of both. */
        private static final int BLINDING_STEPS = 2;

        final int worth;
        private final long p;
        private final long q;

        Denomination(int worth, long p, long q) {
            this.worth = worth;
            this.p = p;
            this.q = q;
        }

        long blindingFactor(long least) {
            long r = least;
            for (int i = 0; i < BLINDING_STEPS && (r % p == 0 || r % q == 0); i++) {
                r++;
            }
            return r;
        }

        long blind(long m, long r) {
            return join(Field.multiply(m, Field.power(r, EXPONENT, p), p),
                    Field.multiply(m, Field.power(r, EXPONENT, q), q));
        }

        long sign(long m) {
            return join(Field.root(m, EXPONENT, p), Field.root(m, EXPONENT, q));
        }

        long unblind(long answer, long r) {
            return join(Field.divide(answer, r, p), Field.divide(answer, r, q));
        }

        boolean isSignature(long s, long m) {
            return s >= 0 && s < p * q
                    && Field.power(s, EXPONENT, p) == m % p
                    && Field.power(s, EXPONENT, q) == m % q;
        }

        /** The number below p * q that leaves these remainders. */
        private long join(long modP, long modQ) {
            long steps = Field.divide(Math.floorMod(modQ - modP, q), p, q);
            return modP + p * steps;
        }
    }

    /** An account with its wallet. */
    private static final class Account {
        int balance = FIRST_BALANCE;
        final Coin[] wallet = new Coin[WALLET_COINS];
        int coinCount = 0;

        boolean isWalletFull() {
            return coinCount >= WALLET_COINS;
        }

        int keep(Coin coin) {
            wallet[coinCount] = coin;
            coinCount++;
            return coinCount - 1;
        }

        boolean hasUnspent(int i, int denomination) {
            return wallet[i].denomination == denomination && !wallet[i].spent;
        }
    }

    private static final class Candidate {
        long a;
        long c;
        long e;
        long b;
        long x;
        long y;
        long pairHash;

        void make(long seed, int j, long hidden) {
            a = Hash.of(seed, 3 * j);
            c = Hash.of(seed, 3 * j + 1);
            e = Hash.of(seed, 3 * j + 2);
            b = a ^ hidden;
            x = Hash.of(a, c);
            y = Hash.of(b, e);
            pairHash = Hash.of(x, y);
        }

        boolean hides(long identity) {
            return (a ^ b) == identity;
        }
    }

    /** The six candidates of a withdrawal; made once and filled again for each. */
    private static final class Proposal {
        private final Candidate[] candidates = new Candidate[CANDIDATES];
        final Candidate[] parts = new Candidate[PARTS];
        private int firstOpened = 0;
        private int secondOpened = 0;

        Proposal() {
            for (int j = 0; j < CANDIDATES; j++) {
                candidates[j] = new Candidate();
            }
        }

        void make(long seed, long identity, int cheats) {
            for (int j = 0; j < CANDIDATES; j++) {
                candidates[j].make(seed, j, identity ^ (cheats >> j & 1));
            }
            open();
            sortParts();
        }

        int openedCheats(long identity) {
            return (candidates[firstOpened].hides(identity) ? 0 : 1)
                    + (candidates[secondOpened].hides(identity) ? 0 : 1);
        }

        void readPairHashes(long[] row) {
            for (int j = 0; j < PARTS; j++) {
                row[j] = parts[j].pairHash;
            }
        }

        private void open() {
            long h = Hash.START;
            for (int j = 0; j < CANDIDATES; j++) {
                h = Hash.step(h, candidates[j].pairHash);
            }
            long t = Hash.end(h);
            firstOpened = (int) (t % CANDIDATES);
            int further = 1 + (int) (t / CANDIDATES % (CANDIDATES - 1));
            secondOpened = (firstOpened + further) % CANDIDATES;
        }

        private void sortParts() {
            int placed = 0;
            for (int j = 0; j < CANDIDATES && placed < PARTS; j++) {
                if (j != firstOpened && j != secondOpened) {
                    insertPart(candidates[j], placed);
                    placed++;
                }
            }
        }

        private void insertPart(Candidate part, int placed) {
            int at = placed;
            while (at > 0 && parts[at - 1].pairHash > part.pairHash) {
                parts[at] = parts[at - 1];
                at--;
            }
            parts[at] = part;
        }
    }

    private static final class Coin {
        final int denomination;
        final long number;
        final long signature;
        boolean spent = false;
        /** What a payment tells of each part, three numbers a part, when its bit is 1 and when it is 0. */
        final long[] toldForOne = new long[PARTS * Payment.PART_NUMBERS];
        final long[] toldForZero = new long[PARTS * Payment.PART_NUMBERS];

        Coin(int denomination, long number, long signature, Candidate[] parts) {
            this.denomination = denomination;
            this.number = number;
            this.signature = signature;
            for (int j = 0; j < PARTS; j++) {
                Candidate part = parts[j];
                int at = j * Payment.PART_NUMBERS;
                toldForOne[at] = part.a;
                toldForOne[at + 1] = part.c;
                toldForOne[at + 2] = part.y;
                toldForZero[at] = part.b;
                toldForZero[at + 1] = part.e;
                toldForZero[at + 2] = part.x;
            }
        }
    }

    /** A payment's sixteen numbers; nothing else is kept of it, for each of them may be tampered with. */
    private static final class Payment {
        static final int PART_NUMBERS = 3;
        private static final int HEAD_NUMBERS = 4;
        private static final int NUMBERS = HEAD_NUMBERS + PARTS * PART_NUMBERS;

        final long[] numbers = new long[NUMBERS];

        Payment(Coin coin, int merchant, int nonce) {
            numbers[0] = coin.denomination;
            numbers[1] = coin.signature;
            numbers[2] = merchant;
            numbers[3] = nonce;
            long c = challenge();
            for (int j = 0; j < PARTS; j++) {
                long[] told = isOne(c, j) ? coin.toldForOne : coin.toldForZero;
                System.arraycopy(told, j * PART_NUMBERS, numbers, firstOfPart(j), PART_NUMBERS);
            }
        }

        static boolean hasNumber(int i) {
            return i >= 0 && i < NUMBERS;
        }

        long denomination() {
            return numbers[0];
        }

        long signatureNumber() {
            return numbers[1];
        }

        long challenge() {
            long h = Hash.step(Hash.START, numbers[2]);
            return Hash.end(Hash.step(Hash.step(h, numbers[3]), numbers[1]));
        }

        /** The number v of part j: one half of the hidden identity. */
        long half(int j) {
            return numbers[firstOfPart(j)];
        }

        void readPairHashes(long[] row) {
            long c = challenge();
            for (int j = 0; j < PARTS; j++) {
                int at = firstOfPart(j);
                long opened = Hash.of(numbers[at], numbers[at + 1]);
                long closed = numbers[at + 2];
                row[j] = isOne(c, j) ? Hash.of(opened, closed) : Hash.of(closed, opened);
            }
        }

        private static int firstOfPart(int j) {
            return HEAD_NUMBERS + j * PART_NUMBERS;
        }
    }

    /** A coin that was deposited, with what its payment told then: that may be tampered with later. */
    private static final class Credit {
        private final long denomination;
        private final long[] pairHashes;
        private final long challenge;
        private final long[] halves = new long[PARTS];
        final Credit before;

        Credit(Payment payment, long[] pairHashes, Credit before) {
            this.denomination = payment.denomination();
            this.pairHashes = pairHashes;
            this.challenge = payment.challenge();
            for (int j = 0; j < PARTS; j++) {
                halves[j] = payment.half(j);
            }
            this.before = before;
        }

        boolean isOf(long otherDenomination, long[] otherPairHashes) {
            boolean same = denomination == otherDenomination;
            for (int j = 0; j < PARTS; j++) {
                same = same && pairHashes[j] == otherPairHashes[j];
            }
            return same;
        }

        /** What the halves of the least part that was told both ways make; NONE when there is no such part. */
        long revealedIdentity(Payment again) {
            long differing = challenge ^ again.challenge();
            for (int j = 0; j < PARTS; j++) {
                if (isOne(differing, j)) {
                    return halves[j] ^ again.half(j);
                }
            }
            return NONE;
        }
    }
}
