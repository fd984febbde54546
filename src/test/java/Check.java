import java.util.ArrayList;
import java.util.List;
import java.util.function.Function;
import java.util.function.Supplier;
import java.util.stream.IntStream;

/** What the tests share: an answer held against the one that is due, and objects to try it on. */
final class Check {
    static final String NO_SUCH = "throws.NoSuchElementException";
    static final String ARGUMENT = "throws.IllegalArgumentException";
    static final String STATE = "throws.IllegalStateException";

    static final int[] NODES = range(0, 9);
    static final int[] BALLOTS = range(0, 30);
    static final int[] VALUES = range(0, 9);
    static final int[] NOT_NODES = beyond(0, 9);
    static final int[] NOT_SETS = beyond(0, 1023);
    static final int[] NOT_BALLOTS = beyond(0, 30);
    static final int[] NOT_VALUES = beyond(0, 9);
    static final int[] NOT_WEIGHTS = beyond(0, 50);
    static final int[] NOT_NEEDS = beyond(1, 500);

    private static int wrong = 0;

    private Check() {
    }

    static int[] range(int lowest, int highest) {
        return IntStream.rangeClosed(lowest, highest).toArray();
    }

    /** The first numbers beside a range, the least and the greatest int, and some that a shift,
        a mask or a cast would bring back into the range. */
    static int[] beyond(int lowest, int highest) {
        return IntStream.of(lowest - 1, highest + 1, -1, -highest, -32, 32, 64, 256, 1024,
                1024 + 63, 1 << 16, Integer.MIN_VALUE, Integer.MIN_VALUE + 1, Integer.MAX_VALUE)
            .filter(x -> x < lowest || x > highest).distinct().toArray();
    }

    static void due(String what, Object want, Supplier<Object> call) {
        Object got;
        try {
            got = call.get();
        } catch (RuntimeException e) {
            got = "throws." + e.getClass().getSimpleName();
        }
        if (!want.equals(got)) {
            wrong++;
            System.out.println(what + " answered " + got + ", due is " + want);
        }
    }

    /** The call throws the exception, and the object is then as one that was not asked. */
    static void refused(String what, String exception, Supplier<BallotBox> maker,
            Function<BallotBox, Object> call) {
        BallotBox x = maker.get();
        due(what, exception, () -> call.apply(x));
        due("all after " + what, whole(maker.get()), () -> whole(x));
    }

    /** The same on an object with votes, promises and weights of many kinds. */
    static void refused(String what, String exception, Function<BallotBox, Object> call) {
        refused(what, exception, Check::busy, call);
    }

    /** The whole state, each vote of each node too, in 452 calls; the weights and need are lost. */
    static List<Object> whole(BallotBox x) {
        List<Object> all = outside(x);
        x.need(1);
        for (int n : NODES) {
            x.weight(n, 0);
        }
        for (int n : NODES) {
            // With a weight for this one alone, what it voted for is what is chosen.
            x.weight(n, 1);
            for (int b : BALLOTS) {
                all.add(x.chosen(b));
            }
            x.weight(n, 0);
        }
        return all;
    }

    /** What questions alone tell of the state. */
    private static List<Object> outside(BallotBox x) {
        List<Object> all = new ArrayList<>();
        for (int what : range(0, 4)) {
            all.add(x.count(what));
        }
        for (int n : NODES) {
            for (int what : range(0, 3)) {
                all.add(x.about(n, what));
            }
        }
        all.addAll(List.of(x.sets(), x.least(), x.meet(), x.bare()));
        for (int b : BALLOTS) {
            // Two values: where there is no vote, neither may stand in the other's way.
            all.add(x.can(b, 0));
            all.add(x.can(b, 7));
        }
        return all;
    }

    /** An object with the weights given, 0 for the nodes behind them, and a need. */
    static BallotBox weighted(int need, int... weights) {
        BallotBox x = new BallotBox();
        for (int n : NODES) {
            x.weight(n, n < weights.length ? weights[n] : 0);
        }
        x.need(need);
        return x;
    }

    /** All ten nodes with one weight, and a need. */
    static BallotBox even(int need, int w) {
        return weighted(need, w, w, w, w, w, w, w, w, w, w);
    }

    /** Five nodes of weight 1 that need 3; 0 to 2 chose 7 in 4, and 3 has promised 9. */
    static BallotBox used() {
        BallotBox x = weighted(3, 1, 1, 1, 1, 1);
        x.vote(0, 2, 3);
        for (int n : range(0, 2)) {
            x.vote(n, 4, 7);
        }
        x.promise(3, 9);
        return x;
    }

    /** 7 is chosen in 4 with no weight too many; only 5, without weight, voted in 1; 8 and 9 are new. */
    static BallotBox busy() {
        BallotBox x = weighted(12, 5, 4, 3, 2, 1, 0, 1, 2, 3, 50);
        x.vote(0, 0, 0);
        x.vote(5, 0, 0);
        x.vote(5, 1, 2);
        x.vote(1, 2, 3);
        x.vote(0, 4, 7);
        x.vote(1, 4, 7);
        x.vote(2, 4, 7);
        x.vote(3, 9, 1);
        x.promise(4, 9);
        x.promise(6, 30);
        x.vote(7, 30, 9);
        return x;
    }

    /** Every node has voted in every ballot, for the ballot's last digit: 310 calls. */
    static BallotBox full() {
        BallotBox x = new BallotBox();
        for (int b : BALLOTS) {
            for (int n : NODES) {
                x.vote(n, b, b % 10);
            }
        }
        return x;
    }

    /** Says how it went, and ends the program with 1 if an answer was wrong. */
    static void finish() {
        System.out.println(wrong == 0 ? "all answers are as due" : wrong + " answers are not as due");
        if (wrong != 0) {
            System.exit(1);
        }
    }
}
