import java.util.Arrays;
import java.util.NoSuchElementException;

public final class BallotBox {
    private static final int NODES = 10;
    private static final int SETS = 1024;
    private static final int ALL_NODES = 1023;
    private static final int BALLOTS = 31;
    private static final int VALUES = 10;
    private static final int HIGHEST_WEIGHT = 50;
    private static final int LOWEST_NEED = 1;
    private static final int HIGHEST_NEED = 500;
    private static final int FIRST_WEIGHT = 1;
    private static final int FIRST_NEED = 6;
    private static final int NONE = -1;

    private final int[] weights = new int[NODES];
    private final int[] promised = new int[NODES];

    // No two votes of one ballot differ, since vote() refuses a second value:
    // so the set of a ballot's voters and one value hold all of its votes.
    private final int[] voters = new int[BALLOTS];
    private final int[] votedFor = new int[BALLOTS];

    private int needed = FIRST_NEED;

    public BallotBox() {
        Arrays.fill(weights, FIRST_WEIGHT);
        Arrays.fill(votedFor, NONE);
    }

    public int weight(int n, int w) throws NoSuchElementException, IllegalArgumentException {
        requireNode(n);
        if (w < 0 || w > HIGHEST_WEIGHT) {
            throw new IllegalArgumentException("no such weight");
        }
        int before = weights[n];
        weights[n] = w;
        return before;
    }

    public int need(int k) throws IllegalArgumentException {
        if (k < LOWEST_NEED || k > HIGHEST_NEED) {
            throw new IllegalArgumentException("no such need");
        }
        int before = needed;
        needed = k;
        return before;
    }

    public int promise(int n, int b) throws NoSuchElementException, IllegalStateException {
        requireNode(n);
        requireBallot(b);
        int before = promised[n];
        if (before > b) {
            throw new IllegalStateException("a higher ballot is promised");
        }
        promised[n] = b;
        return before;
    }

    public int vote(int n, int b, int v) throws NoSuchElementException, IllegalStateException {
        requireNode(n);
        requireBallot(b);
        requireValue(v);
        if (!isOpen(n, b)) {
            throw new IllegalStateException("the node is not open there");
        }
        if (!isOnlyValue(b, v)) {
            throw new IllegalStateException("another value has a vote there");
        }
        promised[n] = b;
        votedFor[b] = v;
        voters[b] |= 1 << n;
        return Integer.bitCount(voters[b]);
    }

    public int ask(int set, int b) throws NoSuchElementException, IllegalStateException {
        requireSet(set);
        requireBallot(b);
        if (!isEnough(set)) {
            throw new IllegalStateException("the set is not enough");
        }
        if (highestPromise(set) > b) {
            throw new IllegalStateException("one has promised a higher ballot");
        }
        promiseAll(set, b);
        int last = lastBallotBelow(b, set);
        return last == NONE ? NONE : votedFor[last];
    }

    public int chosen(int b) throws NoSuchElementException {
        requireBallot(b);
        return chosenValue(b);
    }

    public boolean can(int b, int v) throws NoSuchElementException {
        requireBallot(b);
        requireValue(v);
        return isOnlyValue(b, v) && hasWayToChoose(b);
    }

    public boolean safe(int b, int v) throws NoSuchElementException {
        requireBallot(b);
        requireValue(v);
        return isSafe(b, v);
    }

    public int free(int b) throws NoSuchElementException {
        requireBallot(b);
        int safeValues = 0;
        for (int v = 0; v < VALUES; v++) {
            if (isSafe(b, v)) {
                safeValues++;
            }
        }
        return safeValues;
    }

    public boolean enough(int set) throws NoSuchElementException {
        requireSet(set);
        return isEnough(set);
    }

    public boolean blocks(int set) throws NoSuchElementException {
        requireSet(set);
        // Weights are never negative: if any set beside this one is enough,
        // then so is the largest, all nodes that are not in it.
        return !isEnough(ALL_NODES & ~set);
    }

    public int sets() {
        int found = 0;
        for (int set = 0; set < SETS; set++) {
            if (isEnough(set)) {
                found++;
            }
        }
        return found;
    }

    public int least() {
        int fewest = NONE;
        for (int set = 0; set < SETS; set++) {
            int size = Integer.bitCount(set);
            if ((fewest == NONE || size < fewest) && isEnough(set)) {
                fewest = size;
            }
        }
        return fewest;
    }

    public boolean meet() {
        // A set meets itself, since need is above 0 and so no empty set is enough;
        // a set that misses another lies in the other's rest, which is then enough too.
        for (int set = 0; set < SETS; set++) {
            if (isEnough(set) && isEnough(ALL_NODES & ~set)) {
                return false;
            }
        }
        return true;
    }

    public int bare() {
        int found = 0;
        for (int set = 0; set < SETS; set++) {
            if (isBare(set)) {
                found++;
            }
        }
        return found;
    }

    public int about(int n, int what) throws NoSuchElementException, IllegalArgumentException {
        requireNode(n);
        switch (what) {
            case 0:
                return weights[n];
            case 1:
                return promised[n];
            case 2:
                return ballotsVotedIn(n);
            case 3:
                return lastBallotBelow(BALLOTS, 1 << n);
            default:
                throw new IllegalArgumentException("no such what");
        }
    }

    public int count(int what) {
        switch (what) {
            case 0:
                return needed;
            case 1:
                return weightOf(ALL_NODES);
            case 2:
                return allVotes();
            case 3:
                return ballotsWithChosen();
            case 4:
                return differentChosen();
            default:
                return NONE;
        }
    }

    private static void requireNode(int n) {
        if (n < 0 || n >= NODES) {
            throw new NoSuchElementException("no such node");
        }
    }

    private static void requireSet(int set) {
        if (set < 0 || set >= SETS) {
            throw new NoSuchElementException("no such set");
        }
    }

    private static void requireBallot(int b) {
        if (b < 0 || b >= BALLOTS) {
            throw new NoSuchElementException("no such ballot");
        }
    }

    private static void requireValue(int v) {
        if (v < 0 || v >= VALUES) {
            throw new NoSuchElementException("no such value");
        }
    }

    private static boolean holds(int set, int n) {
        return (set >> n & 1) == 1;
    }

    private int weightOf(int set) {
        int sum = 0;
        for (int n = 0; n < NODES; n++) {
            if (holds(set, n)) {
                sum += weights[n];
            }
        }
        return sum;
    }

    private boolean isEnough(int set) {
        return weightOf(set) >= needed;
    }

    private boolean isBare(int set) {
        // Only the lightest node has to be left out: without a heavier one less is left.
        int sum = weightOf(set);
        return sum >= needed && sum - lightestOf(set) < needed;
    }

    private int lightestOf(int set) {
        int lightest = HIGHEST_WEIGHT;
        for (int n = 0; n < NODES; n++) {
            if (holds(set, n)) {
                lightest = Math.min(lightest, weights[n]);
            }
        }
        return lightest;
    }

    private boolean isOpen(int n, int b) {
        return !holds(voters[b], n) && promised[n] <= b;
    }

    private int openNodes(int b) {
        int open = 0;
        for (int n = 0; n < NODES; n++) {
            if (isOpen(n, b)) {
                open |= 1 << n;
            }
        }
        return open;
    }

    private boolean isOnlyValue(int b, int v) {
        return votedFor[b] == NONE || votedFor[b] == v;
    }

    /** Whether any value can be chosen in the ballot; one that is chosen already counts too. */
    private boolean hasWayToChoose(int b) {
        return isEnough(voters[b] | openNodes(b));
    }

    private boolean isSafe(int b, int v) {
        for (int lower = 0; lower < b; lower++) {
            // Where nobody has voted, values other than v can be chosen as well as v:
            // NONE, which is not v either, stands for them.
            if (votedFor[lower] != v && hasWayToChoose(lower)) {
                return false;
            }
        }
        return true;
    }

    private int chosenValue(int b) {
        return isEnough(voters[b]) ? votedFor[b] : NONE;
    }

    private int highestPromise(int set) {
        int highest = 0;
        for (int n = 0; n < NODES; n++) {
            if (holds(set, n)) {
                highest = Math.max(highest, promised[n]);
            }
        }
        return highest;
    }

    private void promiseAll(int set, int b) {
        for (int n = 0; n < NODES; n++) {
            if (holds(set, n)) {
                promised[n] = b;
            }
        }
    }

    /** The highest ballot below b in which a node of the set has voted, or NONE. */
    private int lastBallotBelow(int b, int set) {
        for (int lower = b - 1; lower >= 0; lower--) {
            if ((voters[lower] & set) != 0) {
                return lower;
            }
        }
        return NONE;
    }

    private int ballotsVotedIn(int n) {
        int found = 0;
        for (int b = 0; b < BALLOTS; b++) {
            if (holds(voters[b], n)) {
                found++;
            }
        }
        return found;
    }

    private int allVotes() {
        int votes = 0;
        for (int b = 0; b < BALLOTS; b++) {
            votes += Integer.bitCount(voters[b]);
        }
        return votes;
    }

    private int ballotsWithChosen() {
        int found = 0;
        for (int b = 0; b < BALLOTS; b++) {
            if (chosenValue(b) != NONE) {
                found++;
            }
        }
        return found;
    }

    private int differentChosen() {
        int seen = 0;
        for (int b = 0; b < BALLOTS; b++) {
            int value = chosenValue(b);
            if (value != NONE) {
                seen |= 1 << value;
            }
        }
        return Integer.bitCount(seen);
    }
}
