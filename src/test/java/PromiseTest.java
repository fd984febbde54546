import java.util.ArrayList;
import java.util.Arrays;
import java.util.List;

/** One test for each promise of the document: ordinary inputs, the named edges, wrong inputs. */
public final class PromiseTest {
    private static final String NO_SUCH = "throws.NoSuchElementException";
    private static final String ARGUMENT = "throws.IllegalArgumentException";
    private static final String STATE = "throws.IllegalStateException";
    private static final int LOWEST = Integer.MIN_VALUE;
    private static final int HIGHEST = Integer.MAX_VALUE;
    private static final int[] NOT_NODES = {-1, 10, LOWEST, HIGHEST};
    private static final int[] NOT_SETS = {-1, 1024, LOWEST, HIGHEST};
    private static final int[] NOT_BALLOTS = {-1, 31, LOWEST, HIGHEST};
    private static final int[] NOT_VALUES = {-1, 10, LOWEST, HIGHEST};

    private interface Call {
        Object answer();
    }

    private static int wrong = 0;

    private static void due(String what, Object want, Call call) {
        Object got;
        try {
            got = call.answer();
        } catch (RuntimeException e) {
            got = "throws." + e.getClass().getSimpleName();
        }
        if (!want.equals(got)) {
            wrong++;
            System.out.println(what + " answered " + got + ", due is " + want);
        }
    }

    /** All that can be seen of an object, in fewer calls than it may be used for. */
    private static List<Object> seen(BallotBox x) {
        List<Object> all = new ArrayList<>();
        for (int n = 0; n < 10; n++) {
            for (int what = 0; what < 4; what++) {
                all.add(x.about(n, what));
            }
        }
        for (int what = 0; what < 5; what++) {
            all.add(x.count(what));
        }
        for (int b = 0; b < 31; b++) {
            all.add(x.chosen(b));
            all.add(x.free(b));
            all.add(x.can(b, 7));
            all.add(x.can(b, 3));
        }
        all.addAll(Arrays.asList(x.sets(), x.least(), x.meet(), x.bare()));
        return all;
    }

    /** An object with the weights given, 0 for the nodes behind them, and a need. */
    private static BallotBox weighted(int need, int... weights) {
        BallotBox x = new BallotBox();
        for (int n = 0; n < 10; n++) {
            x.weight(n, n < weights.length ? weights[n] : 0);
        }
        x.need(need);
        return x;
    }

    /** Five nodes of weight 1 that need 3; 0 to 2 chose 7 in 4, and 3 has promised 9. */
    private static BallotBox used() {
        BallotBox x = weighted(3, 1, 1, 1, 1, 1);
        x.vote(0, 2, 3);
        for (int n = 0; n < 3; n++) {
            x.vote(n, 4, 7);
        }
        x.promise(3, 9);
        return x;
    }

    private static void newObject() {
        BallotBox x = new BallotBox();
        for (int node = 0; node < 10; node++) {
            int n = node;
            due("new: about(n, 0)", 1, () -> x.about(n, 0));
            due("new: about(n, 1)", 0, () -> x.about(n, 1));
            due("new: about(n, 2)", 0, () -> x.about(n, 2));
            due("new: about(n, 3)", -1, () -> x.about(n, 3));
        }
        due("new: need", 6, () -> x.count(0));
        due("new: votes", 0, () -> x.count(2));
        for (int ballot = 0; ballot < 31; ballot++) {
            int b = ballot;
            due("new: chosen", -1, () -> x.chosen(b));
            due("new: can", true, () -> x.can(b, 9));
            due("new: free", b == 0 ? 10 : 0, () -> x.free(b));
        }
        BallotBox other = new BallotBox();
        x.weight(0, 9);
        x.vote(0, 1, 1);
        due("new: another object's weight", 1, () -> other.about(0, 0));
        due("new: another object's votes", 0, () -> other.count(2));
    }

    private static void weight() {
        BallotBox x = new BallotBox();
        due("weight(0, 50)", 1, () -> x.weight(0, 50));
        due("weight(0, 0)", 50, () -> x.weight(0, 0));
        due("weight(0, 3)", 0, () -> x.weight(0, 3));
        due("weight(9, 2)", 1, () -> x.weight(9, 2));
        due("weights together", 13, () -> x.count(1));
        for (int w : new int[] {-1, 51, LOWEST, HIGHEST}) {
            due("weight(0, wrong)", ARGUMENT, () -> x.weight(0, w));
        }
        for (int n : NOT_NODES) {
            due("weight(wrong, 1)", NO_SUCH, () -> x.weight(n, 1));
            due("weight(wrong, wrong)", NO_SUCH, () -> x.weight(n, 51));
        }
        due("weight after refusals", 3, () -> x.about(0, 0));
        BallotBox y = used();
        y.weight(2, 0);
        due("chosen no more, by weight", -1, () -> y.chosen(4));
        y.weight(1, 2);
        due("chosen again, by weight", 7, () -> y.chosen(4));
    }

    private static void need() {
        BallotBox x = new BallotBox();
        due("need(1)", 6, () -> x.need(1));
        due("need(500)", 1, () -> x.need(500));
        for (int k : new int[] {0, 501, -1, LOWEST, HIGHEST}) {
            due("need(wrong)", ARGUMENT, () -> x.need(k));
        }
        due("need after refusals", 500, () -> x.count(0));
        BallotBox y = used();
        y.need(4);
        due("chosen no more, by need", -1, () -> y.chosen(4));
        y.need(1);
        due("chosen, by need", 3, () -> y.chosen(2));
    }

    private static void promise() {
        BallotBox x = new BallotBox();
        due("promise(4, 0)", 0, () -> x.promise(4, 0));
        due("promise(4, 7)", 0, () -> x.promise(4, 7));
        due("promise(4, 7) again", 7, () -> x.promise(4, 7));
        due("promise(4, 6)", STATE, () -> x.promise(4, 6));
        due("promise(4, 30)", 7, () -> x.promise(4, 30));
        due("promise(4, 29)", STATE, () -> x.promise(4, 29));
        due("promised after refusal", 30, () -> x.about(4, 1));
        due("another one has not promised", 0, () -> x.about(5, 1));
        x.vote(0, 5, 1);
        due("promise below a vote", STATE, () -> x.promise(0, 4));
        due("promise in a vote's ballot", 5, () -> x.promise(0, 5));
        for (int n : NOT_NODES) {
            due("promise(wrong, 1)", NO_SUCH, () -> x.promise(n, 1));
        }
        for (int b : NOT_BALLOTS) {
            due("promise(4, wrong)", NO_SUCH, () -> x.promise(4, b));
        }
    }

    private static void vote() {
        BallotBox x = new BallotBox();
        due("vote(0, 3, 5)", 1, () -> x.vote(0, 3, 5));
        due("voter has promised", 3, () -> x.about(0, 1));
        due("vote twice", STATE, () -> x.vote(0, 3, 5));
        due("vote twice, otherwise", STATE, () -> x.vote(0, 3, 6));
        due("vote for another value", STATE, () -> x.vote(1, 3, 6));
        due("refused voter has not promised", 0, () -> x.about(1, 1));
        due("vote(1, 3, 5)", 2, () -> x.vote(1, 3, 5));
        due("vote below a promise", STATE, () -> x.vote(1, 2, 5));
        x.promise(2, 4);
        due("vote below a mere promise", STATE, () -> x.vote(2, 3, 5));
        due("vote where promised", 1, () -> x.vote(2, 4, 0));
        due("another value in another ballot", 2, () -> x.vote(0, 4, 0));
        due("vote(9, 30, 9)", 1, () -> x.vote(9, 30, 9));
        due("vote(8, 0, 0)", 1, () -> x.vote(8, 0, 0));
        x.weight(7, 0);
        due("vote without weight", 3, () -> x.vote(7, 3, 5));
        x.promise(6, 9);
        for (int n : NOT_NODES) {
            due("vote(wrong, 3, 5)", NO_SUCH, () -> x.vote(n, 3, 5));
        }
        for (int b : NOT_BALLOTS) {
            due("vote(6, wrong, 5)", NO_SUCH, () -> x.vote(6, b, 5));
        }
        for (int v : NOT_VALUES) {
            due("vote(6, 3, wrong)", NO_SUCH, () -> x.vote(6, 3, v));
        }
        due("votes after all", 7, () -> x.count(2));
    }

    private static void ask() {
        BallotBox x = weighted(3, 1, 1, 1, 1, 1);
        due("ask with no votes", -1, () -> x.ask(0b00111, 1));
        due("ask: one of the set", 1, () -> x.about(2, 1));
        due("ask: one beside it", 0, () -> x.about(3, 1));
        x.vote(0, 2, 8);
        x.vote(1, 3, 6);
        x.vote(3, 4, 5);
        due("ask: the highest of the set", 6, () -> x.ask(0b00111, 5));
        due("ask: another set's highest", 5, () -> x.ask(0b11100, 5));
        due("ask: not enough", STATE, () -> x.ask(0b00011, 6));
        due("ask: not enough for lack of weight", STATE, () -> x.ask(0b1111100011, 6));
        due("ask: nodes without weight", 6, () -> x.ask(0b1000000111, 6));
        due("ask: they promise too", 6, () -> x.about(9, 1));
        x.promise(4, 20);
        due("ask: one has promised more", STATE, () -> x.ask(0b11111, 19));
        due("ask: then none promises", 6, () -> x.about(0, 1));
        due("ask: the same ballot", 5, () -> x.ask(0b11111, 20));
        x.vote(0, 20, 2);
        due("ask: only below b", 5, () -> x.ask(0b11111, 20));
        due("ask: above b's vote", 2, () -> x.ask(0b11111, 21));
        due("ask: the empty set", STATE, () -> x.ask(0, 30));
        for (int set : NOT_SETS) {
            due("ask(wrong, 30)", NO_SUCH, () -> x.ask(set, 30));
        }
        for (int b : NOT_BALLOTS) {
            due("ask(31, wrong)", NO_SUCH, () -> x.ask(31, b));
            due("ask(not enough, wrong)", NO_SUCH, () -> x.ask(1, b));
        }
        BallotBox y = weighted(1, 1);
        y.vote(0, 0, 4);
        due("ask: nothing is below 0", -1, () -> y.ask(1, 0));
        due("ask: ballot 0", 4, () -> y.ask(1, 30));
    }

    private static void chosen() {
        BallotBox x = weighted(5, 2, 2, 1, 4);
        x.vote(0, 1, 0);
        x.vote(1, 1, 0);
        due("chosen, one short", -1, () -> x.chosen(1));
        x.vote(2, 1, 0);
        due("chosen, just enough", 0, () -> x.chosen(1));
        due("chosen elsewhere", -1, () -> x.chosen(2));
        x.vote(3, 30, 9);
        x.vote(2, 30, 9);
        due("chosen in the last ballot", 9, () -> x.chosen(30));
        due("chosen stays below", 0, () -> x.chosen(1));
        for (int b : NOT_BALLOTS) {
            due("chosen(wrong)", NO_SUCH, () -> x.chosen(b));
        }
    }

    private static void can() {
        BallotBox x = weighted(3, 1, 1, 1, 1);
        due("can: all open", true, () -> x.can(2, 5));
        x.vote(0, 2, 5);
        due("can: voted for", true, () -> x.can(2, 5));
        due("can: another", false, () -> x.can(2, 4));
        x.promise(1, 2);
        due("can: a promise of the same ballot", true, () -> x.can(2, 5));
        x.promise(1, 3);
        due("can: just enough left", true, () -> x.can(2, 5));
        x.promise(2, 3);
        due("can: too few left", false, () -> x.can(2, 5));
        due("can: higher ballot", true, () -> x.can(3, 4));
        x.vote(9, 3, 1);
        due("can: another one's vote without weight", false, () -> x.can(3, 4));
        BallotBox y = used();
        y.promise(0, 30);
        y.promise(1, 30);
        due("can: what is chosen", true, () -> y.can(4, 7));
        due("can: beside what is chosen", false, () -> y.can(4, 3));
        y.need(6);
        due("can: not by all", false, () -> y.can(30, 0));
        for (int b : NOT_BALLOTS) {
            due("can(wrong, 0)", NO_SUCH, () -> y.can(b, 0));
        }
        for (int v : NOT_VALUES) {
            due("can(0, wrong)", NO_SUCH, () -> y.can(0, v));
        }
    }

    private static void safe() {
        BallotBox x = weighted(2, 1, 1, 1);
        due("safe: nothing is lower", true, () -> x.safe(0, 5));
        due("safe: an open ballot is lower", false, () -> x.safe(1, 5));
        x.vote(0, 0, 5);
        due("safe: the voted one", true, () -> x.safe(1, 5));
        due("safe: another", false, () -> x.safe(1, 6));
        due("safe: ballot 1 is open", false, () -> x.safe(2, 5));
        x.ask(0b111, 2);
        due("safe: no more can be", true, () -> x.safe(2, 6));
        x.vote(0, 2, 6);
        x.vote(1, 2, 6);
        x.ask(0b111, 30);
        due("safe: the chosen one", true, () -> x.safe(30, 6));
        due("safe: not beside it", false, () -> x.safe(30, 5));
        due("safe: b itself does not count", true, () -> x.safe(2, 5));
        for (int b : NOT_BALLOTS) {
            due("safe(wrong, 0)", NO_SUCH, () -> x.safe(b, 0));
        }
        for (int v : NOT_VALUES) {
            due("safe(0, wrong)", NO_SUCH, () -> x.safe(0, v));
        }
    }

    private static void free() {
        BallotBox x = weighted(2, 1, 1, 1);
        due("free(0)", 10, () -> x.free(0));
        due("free(1)", 0, () -> x.free(1));
        x.vote(0, 0, 9);
        due("free(1), one voted for", 1, () -> x.free(1));
        x.vote(1, 1, 8);
        due("free(2), two can be", 0, () -> x.free(2));
        x.promise(2, 2);
        due("free(1), none can be", 10, () -> x.free(1));
        due("free(2), one can be", 1, () -> x.free(2));
        x.promise(0, 2);
        due("free(2), none can be", 10, () -> x.free(2));
        x.need(1);
        due("free(1), one is chosen", 1, () -> x.free(1));
        due("free(2), two are chosen", 0, () -> x.free(2));
        x.need(500);
        due("free(30), none can be", 10, () -> x.free(30));
        for (int b : NOT_BALLOTS) {
            due("free(wrong)", NO_SUCH, () -> x.free(b));
        }
    }

    private static void enough() {
        BallotBox x = new BallotBox();
        due("enough: five", false, () -> x.enough(0b11111));
        due("enough: six", true, () -> x.enough(0b111111));
        due("enough: all", true, () -> x.enough(1023));
        due("enough: the empty set", false, () -> x.enough(0));
        x.weight(9, 6);
        due("enough: a heavy one", true, () -> x.enough(512));
        x.need(7);
        due("enough: no more", false, () -> x.enough(512));
        for (int set : NOT_SETS) {
            due("enough(wrong)", NO_SUCH, () -> x.enough(set));
        }
    }

    private static void blocks() {
        BallotBox x = new BallotBox();
        due("blocks: four", false, () -> x.blocks(0b1111));
        due("blocks: five", true, () -> x.blocks(0b11111));
        due("blocks: five others", true, () -> x.blocks(0b1111100000));
        due("blocks: the empty set", false, () -> x.blocks(0));
        due("blocks: all", true, () -> x.blocks(1023));
        x.need(11);
        due("blocks: none is enough", true, () -> x.blocks(0));
        BallotBox y = weighted(3, 3, 1, 1, 1);
        due("blocks: not the rest", false, () -> y.blocks(0b0001));
        due("blocks: one of each", true, () -> y.blocks(0b0101));
        for (int set : NOT_SETS) {
            due("blocks(wrong)", NO_SUCH, () -> y.blocks(set));
        }
    }

    private static void sets() {
        due("sets: new", 386, () -> new BallotBox().sets());
        due("sets: all but the empty one", 1023, () -> weighted(1, 1, 1, 1, 1, 1, 1, 1, 1, 1, 1).sets());
        due("sets: none", 0, () -> weighted(500, 50, 50).sets());
        due("sets: the whole", 1, () -> weighted(500, 50, 50, 50, 50, 50, 50, 50, 50, 50, 50).sets());
        due("sets: one node", 512, () -> weighted(1, 1).sets());
        due("sets: three nodes", 5 * 128, () -> weighted(2, 2, 1, 1).sets());
    }

    private static void least() {
        due("least: new", 6, () -> new BallotBox().least());
        due("least: none", -1, () -> weighted(11, 10).least());
        due("least: a heavy last one", 1, () -> weighted(7, 1, 2, 3, 7).least());
        due("least: two of four", 2, () -> weighted(9, 1, 5, 3, 4).least());
        due("least: all ten", 10, () -> weighted(500, 50, 50, 50, 50, 50, 50, 50, 50, 50, 50).least());
    }

    private static void meet() {
        BallotBox x = new BallotBox();
        due("meet: six of ten", true, () -> x.meet());
        x.need(5);
        due("meet: five of ten", false, () -> x.meet());
        x.need(11);
        due("meet: none is enough", true, () -> x.meet());
        due("meet: one node", true, () -> weighted(1, 50).meet());
        due("meet: two nodes", false, () -> weighted(1, 50, 1).meet());
        due("meet: weights that can't be halved", true, () -> weighted(5, 4, 4, 4).meet());
        due("meet: half of the weight", false, () -> weighted(6, 4, 2, 1, 5).meet());
    }

    private static void bare() {
        due("bare: new", 210, () -> new BallotBox().bare());
        due("bare: none is enough", 0, () -> weighted(500, 50).bare());
        due("bare: single nodes", 3, () -> weighted(1, 1, 2, 50).bare());
        due("bare: no node without weight", 1, () -> weighted(2, 1, 1).bare());
        due("bare: one heavy, three light", 4, () -> weighted(3, 3, 2, 2, 2).bare());
        due("bare: not with a light one too many", 1, () -> weighted(4, 2, 2, 1).bare());
        due("bare: nor with one ahead of the heavy ones", 1, () -> weighted(4, 1, 2, 2).bare());
        due("bare: all ten", 1, () -> weighted(500, 50, 50, 50, 50, 50, 50, 50, 50, 50, 50).bare());
    }

    private static void about() {
        BallotBox x = used();
        x.weight(0, 42);
        x.vote(9, 0, 1);
        due("about(0, 0)", 42, () -> x.about(0, 0));
        due("about(0, 1)", 4, () -> x.about(0, 1));
        due("about(0, 2)", 2, () -> x.about(0, 2));
        due("about(0, 3)", 4, () -> x.about(0, 3));
        due("about(3, 1)", 9, () -> x.about(3, 1));
        due("about(3, 2)", 0, () -> x.about(3, 2));
        due("about(3, 3)", -1, () -> x.about(3, 3));
        due("about(9, 2)", 1, () -> x.about(9, 2));
        due("about(9, 3)", 0, () -> x.about(9, 3));
        x.vote(9, 30, 1);
        x.promise(0, 8);
        due("about(9, 3) at the end", 30, () -> x.about(9, 3));
        due("about(0, 3) after a promise", 4, () -> x.about(0, 3));
        for (int what : new int[] {-1, 4, LOWEST, HIGHEST}) {
            due("about(0, wrong)", ARGUMENT, () -> x.about(0, what));
        }
        for (int n : NOT_NODES) {
            due("about(wrong, 0)", NO_SUCH, () -> x.about(n, 0));
            due("about(wrong, wrong)", NO_SUCH, () -> x.about(n, 4));
        }
    }

    private static void count() {
        BallotBox x = used();
        due("count(0)", 3, () -> x.count(0));
        due("count(1)", 5, () -> x.count(1));
        due("count(2)", 4, () -> x.count(2));
        due("count(3)", 1, () -> x.count(3));
        due("count(4)", 1, () -> x.count(4));
        for (int what : new int[] {-1, 5, LOWEST, HIGHEST}) {
            due("count(else)", -1, () -> x.count(what));
        }
        x.need(1);
        due("count(3), two chosen", 2, () -> x.count(3));
        due("count(4), two chosen", 2, () -> x.count(4));
        x.vote(1, 30, 7);
        x.vote(2, 29, 0);
        due("count(3), two alike", 4, () -> x.count(3));
        due("count(4), two alike", 3, () -> x.count(4));
        due("count(2), two more votes", 6, () -> x.count(2));
    }

    private static void refusalsChangeNothing() {
        BallotBox x = used();
        due("refused weight", ARGUMENT, () -> x.weight(0, 51));
        due("refused need", ARGUMENT, () -> x.need(0));
        due("refused promise", STATE, () -> x.promise(3, 8));
        due("refused vote, closed", STATE, () -> x.vote(3, 8, 1));
        due("refused vote, other value", STATE, () -> x.vote(4, 4, 1));
        due("refused vote, no value", NO_SUCH, () -> x.vote(4, 5, 10));
        due("refused ask, not enough", STATE, () -> x.ask(3, 30));
        due("refused ask, promised", STATE, () -> x.ask(31, 8));
        due("refused about", ARGUMENT, () -> x.about(0, 4));
        due("all after refusals", seen(used()), () -> seen(x));
    }

    private static void questionsChangeNothing() {
        BallotBox x = used();
        seen(x);
        x.safe(30, 7);
        x.enough(31);
        x.blocks(31);
        due("all after questions", seen(used()), () -> seen(x));
    }

    public static void main(String[] args) {
        newObject();
        weight();
        need();
        promise();
        vote();
        ask();
        chosen();
        can();
        safe();
        free();
        enough();
        blocks();
        sets();
        least();
        meet();
        bare();
        about();
        count();
        refusalsChangeNothing();
        questionsChangeNothing();
        System.out.println(wrong == 0 ? "all answers are as due" : wrong + " answers are not as due");
        if (wrong != 0) {
            System.exit(1);
        }
    }
}
