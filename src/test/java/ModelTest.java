import java.util.NoSuchElementException;
import java.util.Random;

/**
 * Long runs of calls, each answered too by a model that follows the document's words one by one:
 * it keeps every vote by itself and looks through all sets and pairs of sets.
 */
public final class ModelTest {
    private static final int RUNS = 400;
    private static final int CALLS = 512;
    private static final int KINDS = 17;

    private static final class Model {
        final int[] weight = new int[10];
        final int[] promised = new int[10];
        final int[][] vote = new int[10][31];
        int need = 6;

        Model() {
            for (int n = 0; n < 10; n++) {
                weight[n] = 1;
                for (int b = 0; b < 31; b++) {
                    vote[n][b] = -1;
                }
            }
        }

        static void there(int x, int limit) {
            if (x < 0 || x >= limit) {
                throw new NoSuchElementException();
            }
        }

        static boolean in(int n, int set) {
            return (set & (1 << n)) != 0;
        }

        boolean enough(int set) {
            int sum = 0;
            for (int n = 0; n < 10; n++) {
                sum += in(n, set) ? weight[n] : 0;
            }
            return sum >= need;
        }

        boolean open(int n, int b) {
            return vote[n][b] == -1 && promised[n] <= b;
        }

        int votersFor(int b, int v) {
            int set = 0;
            for (int n = 0; n < 10; n++) {
                set |= vote[n][b] == v ? 1 << n : 0;
            }
            return set;
        }

        boolean otherVoted(int b, int v) {
            for (int n = 0; n < 10; n++) {
                if (vote[n][b] != -1 && vote[n][b] != v) {
                    return true;
                }
            }
            return false;
        }

        boolean isChosen(int b, int v) {
            return enough(votersFor(b, v));
        }

        boolean canBe(int b, int v) {
            int set = votersFor(b, v);
            for (int n = 0; n < 10; n++) {
                set |= open(n, b) ? 1 << n : 0;
            }
            return enough(set) && !otherVoted(b, v);
        }

        boolean isSafe(int b, int v) {
            for (int lower = 0; lower < b; lower++) {
                for (int other = 0; other < 10; other++) {
                    if (other != v && canBe(lower, other)) {
                        return false;
                    }
                }
            }
            return true;
        }

        int weight(int n, int w) {
            there(n, 10);
            if (w < 0 || w > 50) {
                throw new IllegalArgumentException();
            }
            int was = weight[n];
            weight[n] = w;
            return was;
        }

        int need(int k) {
            if (k < 1 || k > 500) {
                throw new IllegalArgumentException();
            }
            int was = need;
            need = k;
            return was;
        }

        int promise(int n, int b) {
            there(n, 10);
            there(b, 31);
            if (promised[n] > b) {
                throw new IllegalStateException();
            }
            int was = promised[n];
            promised[n] = b;
            return was;
        }

        int vote(int n, int b, int v) {
            there(n, 10);
            there(b, 31);
            there(v, 10);
            if (!open(n, b) || otherVoted(b, v)) {
                throw new IllegalStateException();
            }
            vote[n][b] = v;
            promised[n] = b;
            return Integer.bitCount(votersFor(b, v));
        }

        int ask(int set, int b) {
            there(set, 1024);
            there(b, 31);
            if (!enough(set)) {
                throw new IllegalStateException();
            }
            for (int n = 0; n < 10; n++) {
                if (in(n, set) && promised[n] > b) {
                    throw new IllegalStateException();
                }
            }
            int value = -1;
            for (int n = 0; n < 10; n++) {
                promised[n] = in(n, set) ? b : promised[n];
            }
            for (int lower = 0; lower < b; lower++) {
                for (int n = 0; n < 10; n++) {
                    value = in(n, set) && vote[n][lower] != -1 ? vote[n][lower] : value;
                }
            }
            return value;
        }

        int chosen(int b) {
            there(b, 31);
            for (int v = 0; v < 10; v++) {
                if (isChosen(b, v)) {
                    return v;
                }
            }
            return -1;
        }

        int can(int b, int v) {
            there(b, 31);
            there(v, 10);
            return canBe(b, v) ? 1 : 0;
        }

        int safe(int b, int v) {
            there(b, 31);
            there(v, 10);
            return isSafe(b, v) ? 1 : 0;
        }

        int free(int b) {
            there(b, 31);
            int found = 0;
            for (int v = 0; v < 10; v++) {
                found += isSafe(b, v) ? 1 : 0;
            }
            return found;
        }

        int isEnough(int set) {
            there(set, 1024);
            return enough(set) ? 1 : 0;
        }

        int blocks(int set) {
            there(set, 1024);
            for (int other = 0; other < 1024; other++) {
                if (enough(other) && (other & set) == 0) {
                    return 0;
                }
            }
            return 1;
        }

        int sets() {
            int found = 0;
            for (int set = 0; set < 1024; set++) {
                found += enough(set) ? 1 : 0;
            }
            return found;
        }

        int least() {
            for (int size = 0; size <= 10; size++) {
                for (int set = 0; set < 1024; set++) {
                    if (Integer.bitCount(set) == size && enough(set)) {
                        return size;
                    }
                }
            }
            return -1;
        }

        int meet() {
            boolean[] enough = new boolean[1024];
            for (int set = 0; set < 1024; set++) {
                enough[set] = enough(set);
            }
            for (int one = 0; one < 1024; one++) {
                for (int other = 0; enough[one] && other < 1024; other++) {
                    if (enough[other] && (one & other) == 0) {
                        return 0;
                    }
                }
            }
            return 1;
        }

        int bare() {
            int found = 0;
            for (int set = 0; set < 1024; set++) {
                boolean bare = enough(set);
                for (int n = 0; n < 10; n++) {
                    bare &= !in(n, set) || !enough(set - (1 << n));
                }
                found += bare ? 1 : 0;
            }
            return found;
        }

        int about(int n, int what) {
            there(n, 10);
            int votes = 0;
            int highest = -1;
            for (int b = 0; b < 31; b++) {
                if (vote[n][b] != -1) {
                    votes++;
                    highest = b;
                }
            }
            int[] answers = {weight[n], promised[n], votes, highest};
            if (what < 0 || what >= answers.length) {
                throw new IllegalArgumentException();
            }
            return answers[what];
        }

        int count(int what) {
            int weights = 0;
            int votes = 0;
            int ballots = 0;
            int values = 0;
            for (int n = 0; n < 10; n++) {
                weights += weight[n];
                votes += about(n, 2);
            }
            for (int b = 0; b < 31; b++) {
                ballots += chosen(b) != -1 ? 1 : 0;
            }
            for (int v = 0; v < 10; v++) {
                boolean found = false;
                for (int b = 0; b < 31; b++) {
                    found |= isChosen(b, v);
                }
                values += found ? 1 : 0;
            }
            int[] answers = {need, weights, votes, ballots, values};
            return what >= 0 && what < answers.length ? answers[what] : -1;
        }
    }

    private static int bit(boolean answer) {
        return answer ? 1 : 0;
    }

    private static int callReal(BallotBox x, int kind, int[] a) {
        switch (kind) {
            case 0: return x.weight(a[0], a[1]);
            case 1: return x.need(a[0]);
            case 2: return x.promise(a[0], a[1]);
            case 3: return x.vote(a[0], a[1], a[2]);
            case 4: return x.ask(a[0], a[1]);
            case 5: return x.chosen(a[0]);
            case 6: return bit(x.can(a[0], a[1]));
            case 7: return bit(x.safe(a[0], a[1]));
            case 8: return x.free(a[0]);
            case 9: return bit(x.enough(a[0]));
            case 10: return bit(x.blocks(a[0]));
            case 11: return x.sets();
            case 12: return x.least();
            case 13: return bit(x.meet());
            case 14: return x.bare();
            case 15: return x.about(a[0], a[1]);
            default: return x.count(a[0]);
        }
    }

    private static int callModel(Model x, int kind, int[] a) {
        switch (kind) {
            case 0: return x.weight(a[0], a[1]);
            case 1: return x.need(a[0]);
            case 2: return x.promise(a[0], a[1]);
            case 3: return x.vote(a[0], a[1], a[2]);
            case 4: return x.ask(a[0], a[1]);
            case 5: return x.chosen(a[0]);
            case 6: return x.can(a[0], a[1]);
            case 7: return x.safe(a[0], a[1]);
            case 8: return x.free(a[0]);
            case 9: return x.isEnough(a[0]);
            case 10: return x.blocks(a[0]);
            case 11: return x.sets();
            case 12: return x.least();
            case 13: return x.meet();
            case 14: return x.bare();
            case 15: return x.about(a[0], a[1]);
            default: return x.count(a[0]);
        }
    }

    private static String real(BallotBox x, int kind, int[] a) {
        try {
            return Integer.toString(callReal(x, kind, a));
        } catch (RuntimeException e) {
            return e.getClass().getSimpleName();
        }
    }

    private static String model(Model x, int kind, int[] a) {
        try {
            return Integer.toString(callModel(x, kind, a));
        } catch (RuntimeException e) {
            return e.getClass().getSimpleName();
        }
    }

    /** Mostly a number below the limit, now and then one beside the range. */
    private static int some(Random random, int limit) {
        if (random.nextInt(25) != 0) {
            return random.nextInt(limit);
        }
        int[] beside = {-1, limit, Integer.MIN_VALUE, Integer.MAX_VALUE};
        return beside[random.nextInt(beside.length)];
    }

    /** How a run leans, so that among the runs all sorts of states come up. */
    private static final class Lean {
        final int highestWeight;
        final int highestNeed;
        final int ballots;
        final int values;
        final boolean climbs;

        Lean(Random random) {
            highestWeight = new int[] {1, 2, 5, 50}[random.nextInt(4)];
            highestNeed = Math.min(500, 1 + random.nextInt(highestWeight * 11));
            ballots = new int[] {3, 8, 31}[random.nextInt(3)];
            values = new int[] {1, 2, 10}[random.nextInt(3)];
            climbs = random.nextBoolean();
        }

        int ballot(Random random, int call) {
            if (random.nextInt(25) == 0) {
                return some(random, 31);
            }
            int top = climbs ? Math.min(ballots, 2 + ballots * call / CALLS) : ballots;
            return random.nextInt(top);
        }

        int value(Random random) {
            return random.nextInt(25) == 0 ? some(random, 10) : random.nextInt(values);
        }

        int[] arguments(Random random, int kind, int call) {
            switch (kind) {
                case 0: return new int[] {some(random, 10),
                    random.nextInt(9) == 0 ? some(random, 51) : random.nextInt(highestWeight + 1)};
                case 1: return new int[] {
                    random.nextInt(9) == 0 ? some(random, 501) : 1 + random.nextInt(highestNeed)};
                case 2: return new int[] {some(random, 10), ballot(random, call)};
                case 3: return new int[] {some(random, 10), ballot(random, call), value(random)};
                case 4: return new int[] {some(random, 1024), ballot(random, call)};
                case 6:
                case 7: return new int[] {ballot(random, call), value(random)};
                case 5:
                case 8: return new int[] {ballot(random, call)};
                case 9:
                case 10: return new int[] {some(random, 1024)};
                case 15: return new int[] {some(random, 10), some(random, 4)};
                case 16: return new int[] {some(random, 5)};
                default: return new int[0];
            }
        }
    }

    /** Votes come most often, since most else depends on them; what the weights allow, seldom. */
    private static int someKind(Random random) {
        int kind = random.nextInt(KINDS + 12);
        if (kind >= KINDS) {
            return 3;
        }
        return (kind < 3 || kind == 4) && random.nextInt(3) != 0 ? 3 : kind;
    }

    private static boolean runIsRight(int seed) {
        Random random = new Random(seed);
        Lean lean = new Lean(random);
        BallotBox x = new BallotBox();
        Model due = new Model();
        for (int call = 0; call < CALLS; call++) {
            int kind = someKind(random);
            int[] arguments = lean.arguments(random, kind, call);
            String got = real(x, kind, arguments);
            String want = model(due, kind, arguments);
            if (!got.equals(want)) {
                System.out.println("seed " + seed + ", call " + call + ", kind " + kind + " "
                    + java.util.Arrays.toString(arguments) + " answered " + got + ", due is " + want);
                return false;
            }
        }
        return true;
    }

    public static void main(String[] args) {
        int wrong = 0;
        for (int seed = 0; seed < RUNS; seed++) {
            wrong += runIsRight(seed) ? 0 : 1;
        }
        System.out.println(wrong == 0 ? "all runs are as due" : wrong + " runs are not as due");
        if (wrong != 0) {
            System.exit(1);
        }
    }
}
