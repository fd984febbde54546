import java.util.ArrayList;
import java.util.Arrays;
import java.util.List;

/** One test for each promise of the document: ordinary inputs, the named edges, wrong inputs. */
public final class PromiseTest {

    /** All that can be seen of an object, in fewer calls than it may be used for. */
    private static List<Object> seen(BallotBox x) {
        List<Object> all = new ArrayList<>();
        for (int n = 0; n < 10; n++) {
            for (int what = 0; what < 4; what++) {
                all.add(x.about(n, what));
            }
        }
        for (int what = 0; what < 5; what++) {
            all.add(x.count(what));
        }
        for (int b = 0; b < 31; b++) {
            all.add(x.chosen(b));
            all.add(x.free(b));
            all.add(x.can(b, 7));
            all.add(x.can(b, 3));
        }
        all.addAll(Arrays.asList(x.sets(), x.least(), x.meet(), x.bare()));
        return all;
    }

    private static void newObject() {
        BallotBox x = new BallotBox();
        for (int node = 0; node < 10; node++) {
            int n = node;
            Check.due("new: about(n, 0)", 1, () -> x.about(n, 0));
            Check.due("new: about(n, 1)", 0, () -> x.about(n, 1));
            Check.due("new: about(n, 2)", 0, () -> x.about(n, 2));
            Check.due("new: about(n, 3)", -1, () -> x.about(n, 3));
        }
        Check.due("new: need", 6, () -> x.count(0));
        Check.due("new: votes", 0, () -> x.count(2));
        for (int ballot = 0; ballot < 31; ballot++) {
            int b = ballot;
            Check.due("new: chosen", -1, () -> x.chosen(b));
            Check.due("new: can", true, () -> x.can(b, 9));
            Check.due("new: free", b == 0 ? 10 : 0, () -> x.free(b));
        }
        BallotBox other = new BallotBox();
        x.weight(0, 9);
        x.vote(0, 1, 1);
        Check.due("new: another object's weight", 1, () -> other.about(0, 0));
        Check.due("new: another object's votes", 0, () -> other.count(2));
    }

    private static void weight() {
        BallotBox x = new BallotBox();
        Check.due("weight(0, 50)", 1, () -> x.weight(0, 50));
        Check.due("weight(0, 0)", 50, () -> x.weight(0, 0));
        Check.due("weight(0, 3)", 0, () -> x.weight(0, 3));
        Check.due("weight(9, 2)", 1, () -> x.weight(9, 2));
        Check.due("weights together", 13, () -> x.count(1));
        for (int w : Check.NOT_WEIGHTS) {
            Check.due("weight(0, wrong)", Check.ARGUMENT, () -> x.weight(0, w));
        }
        for (int n : Check.NOT_NODES) {
            Check.due("weight(wrong, 1)", Check.NO_SUCH, () -> x.weight(n, 1));
            Check.due("weight(wrong, wrong)", Check.NO_SUCH, () -> x.weight(n, 51));
        }
        Check.due("weight after refusals", 3, () -> x.about(0, 0));
        BallotBox y = Check.used();
        y.weight(2, 0);
        Check.due("chosen no more, by weight", -1, () -> y.chosen(4));
        y.weight(1, 2);
        Check.due("chosen again, by weight", 7, () -> y.chosen(4));
    }

    private static void need() {
        BallotBox x = new BallotBox();
        Check.due("need(1)", 6, () -> x.need(1));
        Check.due("need(500)", 1, () -> x.need(500));
        for (int k : Check.NOT_NEEDS) {
            Check.due("need(wrong)", Check.ARGUMENT, () -> x.need(k));
        }
        Check.due("need after refusals", 500, () -> x.count(0));
        BallotBox y = Check.used();
        y.need(4);
        Check.due("chosen no more, by need", -1, () -> y.chosen(4));
        y.need(1);
        Check.due("chosen, by need", 3, () -> y.chosen(2));
    }

    private static void promise() {
        BallotBox x = new BallotBox();
        Check.due("promise(4, 0)", 0, () -> x.promise(4, 0));
        Check.due("promise(4, 7)", 0, () -> x.promise(4, 7));
        Check.due("promise(4, 7) again", 7, () -> x.promise(4, 7));
        Check.due("promise(4, 6)", Check.STATE, () -> x.promise(4, 6));
        Check.due("promise(4, 30)", 7, () -> x.promise(4, 30));
        Check.due("promise(4, 29)", Check.STATE, () -> x.promise(4, 29));
        Check.due("promised after refusal", 30, () -> x.about(4, 1));
        Check.due("another one has not promised", 0, () -> x.about(5, 1));
        x.vote(0, 5, 1);
        Check.due("promise below a vote", Check.STATE, () -> x.promise(0, 4));
        Check.due("promise in a vote's ballot", 5, () -> x.promise(0, 5));
        for (int n : Check.NOT_NODES) {
            Check.due("promise(wrong, 1)", Check.NO_SUCH, () -> x.promise(n, 1));
        }
        for (int b : Check.NOT_BALLOTS) {
            Check.due("promise(4, wrong)", Check.NO_SUCH, () -> x.promise(4, b));
        }
    }

    private static void vote() {
        BallotBox x = new BallotBox();
        Check.due("vote(0, 3, 5)", 1, () -> x.vote(0, 3, 5));
        Check.due("voter has promised", 3, () -> x.about(0, 1));
        Check.due("vote twice", Check.STATE, () -> x.vote(0, 3, 5));
        Check.due("vote twice, otherwise", Check.STATE, () -> x.vote(0, 3, 6));
        Check.due("vote for another value", Check.STATE, () -> x.vote(1, 3, 6));
        Check.due("refused voter has not promised", 0, () -> x.about(1, 1));
        Check.due("vote(1, 3, 5)", 2, () -> x.vote(1, 3, 5));
        Check.due("vote below a promise", Check.STATE, () -> x.vote(1, 2, 5));
        x.promise(2, 4);
        Check.due("vote below a mere promise", Check.STATE, () -> x.vote(2, 3, 5));
        Check.due("vote where promised", 1, () -> x.vote(2, 4, 0));
        Check.due("another value in another ballot", 2, () -> x.vote(0, 4, 0));
        Check.due("vote(9, 30, 9)", 1, () -> x.vote(9, 30, 9));
        Check.due("vote(8, 0, 0)", 1, () -> x.vote(8, 0, 0));
        x.weight(7, 0);
        Check.due("vote without weight", 3, () -> x.vote(7, 3, 5));
        x.promise(6, 9);
        for (int n : Check.NOT_NODES) {
            Check.due("vote(wrong, 3, 5)", Check.NO_SUCH, () -> x.vote(n, 3, 5));
        }
        for (int b : Check.NOT_BALLOTS) {
            Check.due("vote(6, wrong, 5)", Check.NO_SUCH, () -> x.vote(6, b, 5));
        }
        for (int v : Check.NOT_VALUES) {
            Check.due("vote(6, 3, wrong)", Check.NO_SUCH, () -> x.vote(6, 3, v));
        }
        Check.due("votes after all", 7, () -> x.count(2));
    }

    private static void ask() {
        BallotBox x = Check.weighted(3, 1, 1, 1, 1, 1);
        Check.due("ask with no votes", -1, () -> x.ask(0b00111, 1));
        Check.due("ask: one of the set", 1, () -> x.about(2, 1));
        Check.due("ask: one beside it", 0, () -> x.about(3, 1));
        x.vote(0, 2, 8);
        x.vote(1, 3, 6);
        x.vote(3, 4, 5);
        Check.due("ask: the highest of the set", 6, () -> x.ask(0b00111, 5));
        Check.due("ask: another set's highest", 5, () -> x.ask(0b11100, 5));
        Check.due("ask: not enough", Check.STATE, () -> x.ask(0b00011, 6));
        Check.due("ask: not enough for lack of weight", Check.STATE, () -> x.ask(0b1111100011, 6));
        Check.due("ask: nodes without weight", 6, () -> x.ask(0b1000000111, 6));
        Check.due("ask: they promise too", 6, () -> x.about(9, 1));
        x.promise(4, 20);
        Check.due("ask: one has promised more", Check.STATE, () -> x.ask(0b11111, 19));
        Check.due("ask: then none promises", 6, () -> x.about(0, 1));
        Check.due("ask: the same ballot", 5, () -> x.ask(0b11111, 20));
        x.vote(0, 20, 2);
        Check.due("ask: only below b", 5, () -> x.ask(0b11111, 20));
        Check.due("ask: above b's vote", 2, () -> x.ask(0b11111, 21));
        Check.due("ask: the empty set", Check.STATE, () -> x.ask(0, 30));
        for (int set : Check.NOT_SETS) {
            Check.due("ask(wrong, 30)", Check.NO_SUCH, () -> x.ask(set, 30));
        }
        for (int b : Check.NOT_BALLOTS) {
            Check.due("ask(31, wrong)", Check.NO_SUCH, () -> x.ask(31, b));
            Check.due("ask(not enough, wrong)", Check.NO_SUCH, () -> x.ask(1, b));
        }
        BallotBox y = Check.weighted(1, 1);
        y.vote(0, 0, 4);
        Check.due("ask: nothing is below 0", -1, () -> y.ask(1, 0));
        Check.due("ask: ballot 0", 4, () -> y.ask(1, 30));
    }

    private static void chosen() {
        BallotBox x = Check.weighted(5, 2, 2, 1, 4);
        x.vote(0, 1, 0);
        x.vote(1, 1, 0);
        Check.due("chosen, one short", -1, () -> x.chosen(1));
        x.vote(2, 1, 0);
        Check.due("chosen, just enough", 0, () -> x.chosen(1));
        Check.due("chosen elsewhere", -1, () -> x.chosen(2));
        x.vote(3, 30, 9);
        x.vote(2, 30, 9);
        Check.due("chosen in the last ballot", 9, () -> x.chosen(30));
        Check.due("chosen stays below", 0, () -> x.chosen(1));
        for (int b : Check.NOT_BALLOTS) {
            Check.due("chosen(wrong)", Check.NO_SUCH, () -> x.chosen(b));
        }
    }

    private static void can() {
        BallotBox x = Check.weighted(3, 1, 1, 1, 1);
        Check.due("can: all open", true, () -> x.can(2, 5));
        x.vote(0, 2, 5);
        Check.due("can: voted for", true, () -> x.can(2, 5));
        Check.due("can: another", false, () -> x.can(2, 4));
        x.promise(1, 2);
        Check.due("can: a promise of the same ballot", true, () -> x.can(2, 5));
        x.promise(1, 3);
        Check.due("can: just enough left", true, () -> x.can(2, 5));
        x.promise(2, 3);
        Check.due("can: too few left", false, () -> x.can(2, 5));
        Check.due("can: higher ballot", true, () -> x.can(3, 4));
        x.vote(9, 3, 1);
        Check.due("can: another one's vote without weight", false, () -> x.can(3, 4));
        BallotBox y = Check.used();
        y.promise(0, 30);
        y.promise(1, 30);
        Check.due("can: what is chosen", true, () -> y.can(4, 7));
        Check.due("can: beside what is chosen", false, () -> y.can(4, 3));
        y.need(6);
        Check.due("can: not by all", false, () -> y.can(30, 0));
        for (int b : Check.NOT_BALLOTS) {
            Check.due("can(wrong, 0)", Check.NO_SUCH, () -> y.can(b, 0));
        }
        for (int v : Check.NOT_VALUES) {
            Check.due("can(0, wrong)", Check.NO_SUCH, () -> y.can(0, v));
        }
    }

    private static void safe() {
        BallotBox x = Check.weighted(2, 1, 1, 1);
        Check.due("safe: nothing is lower", true, () -> x.safe(0, 5));
        Check.due("safe: an open ballot is lower", false, () -> x.safe(1, 5));
        x.vote(0, 0, 5);
        Check.due("safe: the voted one", true, () -> x.safe(1, 5));
        Check.due("safe: another", false, () -> x.safe(1, 6));
        Check.due("safe: ballot 1 is open", false, () -> x.safe(2, 5));
        x.ask(0b111, 2);
        Check.due("safe: no more can be", true, () -> x.safe(2, 6));
        x.vote(0, 2, 6);
        x.vote(1, 2, 6);
        x.ask(0b111, 30);
        Check.due("safe: the chosen one", true, () -> x.safe(30, 6));
        Check.due("safe: not beside it", false, () -> x.safe(30, 5));
        Check.due("safe: b itself does not count", true, () -> x.safe(2, 5));
        for (int b : Check.NOT_BALLOTS) {
            Check.due("safe(wrong, 0)", Check.NO_SUCH, () -> x.safe(b, 0));
        }
        for (int v : Check.NOT_VALUES) {
            Check.due("safe(0, wrong)", Check.NO_SUCH, () -> x.safe(0, v));
        }
    }

    private static void free() {
        BallotBox x = Check.weighted(2, 1, 1, 1);
        Check.due("free(0)", 10, () -> x.free(0));
        Check.due("free(1)", 0, () -> x.free(1));
        x.vote(0, 0, 9);
        Check.due("free(1), one voted for", 1, () -> x.free(1));
        x.vote(1, 1, 8);
        Check.due("free(2), two can be", 0, () -> x.free(2));
        x.promise(2, 2);
        Check.due("free(1), none can be", 10, () -> x.free(1));
        Check.due("free(2), one can be", 1, () -> x.free(2));
        x.promise(0, 2);
        Check.due("free(2), none can be", 10, () -> x.free(2));
        x.need(1);
        Check.due("free(1), one is chosen", 1, () -> x.free(1));
        Check.due("free(2), two are chosen", 0, () -> x.free(2));
        x.need(500);
        Check.due("free(30), none can be", 10, () -> x.free(30));
        for (int b : Check.NOT_BALLOTS) {
            Check.due("free(wrong)", Check.NO_SUCH, () -> x.free(b));
        }
    }

    private static void enough() {
        BallotBox x = new BallotBox();
        Check.due("enough: five", false, () -> x.enough(0b11111));
        Check.due("enough: six", true, () -> x.enough(0b111111));
        Check.due("enough: all", true, () -> x.enough(1023));
        Check.due("enough: the empty set", false, () -> x.enough(0));
        x.weight(9, 6);
        Check.due("enough: a heavy one", true, () -> x.enough(512));
        x.need(7);
        Check.due("enough: no more", false, () -> x.enough(512));
        for (int set : Check.NOT_SETS) {
            Check.due("enough(wrong)", Check.NO_SUCH, () -> x.enough(set));
        }
    }

    private static void blocks() {
        BallotBox x = new BallotBox();
        Check.due("blocks: four", false, () -> x.blocks(0b1111));
        Check.due("blocks: five", true, () -> x.blocks(0b11111));
        Check.due("blocks: five others", true, () -> x.blocks(0b1111100000));
        Check.due("blocks: the empty set", false, () -> x.blocks(0));
        Check.due("blocks: all", true, () -> x.blocks(1023));
        x.need(11);
        Check.due("blocks: none is enough", true, () -> x.blocks(0));
        BallotBox y = Check.weighted(3, 3, 1, 1, 1);
        Check.due("blocks: not the rest", false, () -> y.blocks(0b0001));
        Check.due("blocks: one of each", true, () -> y.blocks(0b0101));
        for (int set : Check.NOT_SETS) {
            Check.due("blocks(wrong)", Check.NO_SUCH, () -> y.blocks(set));
        }
    }

    private static void sets() {
        Check.due("sets: new", 386, () -> new BallotBox().sets());
        Check.due("sets: all but the empty one", 1023, () -> Check.even(1, 1).sets());
        Check.due("sets: none", 0, () -> Check.weighted(500, 50, 50).sets());
        Check.due("sets: the whole", 1, () -> Check.even(500, 50).sets());
        Check.due("sets: one node", 512, () -> Check.weighted(1, 1).sets());
        Check.due("sets: three nodes", 5 * 128, () -> Check.weighted(2, 2, 1, 1).sets());
    }

    private static void least() {
        Check.due("least: new", 6, () -> new BallotBox().least());
        Check.due("least: none", -1, () -> Check.weighted(11, 10).least());
        Check.due("least: a heavy last one", 1, () -> Check.weighted(7, 1, 2, 3, 7).least());
        Check.due("least: two of four", 2, () -> Check.weighted(9, 1, 5, 3, 4).least());
        Check.due("least: all ten", 10, () -> Check.even(500, 50).least());
    }

    private static void meet() {
        BallotBox x = new BallotBox();
        Check.due("meet: six of ten", true, () -> x.meet());
        x.need(5);
        Check.due("meet: five of ten", false, () -> x.meet());
        x.need(11);
        Check.due("meet: none is enough", true, () -> x.meet());
        Check.due("meet: one node", true, () -> Check.weighted(1, 50).meet());
        Check.due("meet: two nodes", false, () -> Check.weighted(1, 50, 1).meet());
        Check.due("meet: weights that can't be halved", true, () -> Check.weighted(5, 4, 4, 4).meet());
        Check.due("meet: half of the weight", false, () -> Check.weighted(6, 4, 2, 1, 5).meet());
    }

    private static void bare() {
        Check.due("bare: new", 210, () -> new BallotBox().bare());
        Check.due("bare: none is enough", 0, () -> Check.weighted(500, 50).bare());
        Check.due("bare: single nodes", 3, () -> Check.weighted(1, 1, 2, 50).bare());
        Check.due("bare: no node without weight", 1, () -> Check.weighted(2, 1, 1).bare());
        Check.due("bare: one heavy, three light", 4, () -> Check.weighted(3, 3, 2, 2, 2).bare());
        Check.due("bare: not with a light one too many", 1, () -> Check.weighted(4, 2, 2, 1).bare());
        Check.due("bare: nor with one ahead of the heavy ones", 1, () -> Check.weighted(4, 1, 2, 2).bare());
        Check.due("bare: all ten", 1, () -> Check.even(500, 50).bare());
    }

    private static void about() {
        BallotBox x = Check.used();
        x.weight(0, 42);
        x.vote(9, 0, 1);
        Check.due("about(0, 0)", 42, () -> x.about(0, 0));
        Check.due("about(0, 1)", 4, () -> x.about(0, 1));
        Check.due("about(0, 2)", 2, () -> x.about(0, 2));
        Check.due("about(0, 3)", 4, () -> x.about(0, 3));
        Check.due("about(3, 1)", 9, () -> x.about(3, 1));
        Check.due("about(3, 2)", 0, () -> x.about(3, 2));
        Check.due("about(3, 3)", -1, () -> x.about(3, 3));
        Check.due("about(9, 2)", 1, () -> x.about(9, 2));
        Check.due("about(9, 3)", 0, () -> x.about(9, 3));
        x.vote(9, 30, 1);
        x.promise(0, 8);
        Check.due("about(9, 3) at the end", 30, () -> x.about(9, 3));
        Check.due("about(0, 3) after a promise", 4, () -> x.about(0, 3));
        for (int what : Check.beyond(0, 3)) {
            Check.due("about(0, wrong)", Check.ARGUMENT, () -> x.about(0, what));
        }
        for (int n : Check.NOT_NODES) {
            Check.due("about(wrong, 0)", Check.NO_SUCH, () -> x.about(n, 0));
            Check.due("about(wrong, wrong)", Check.NO_SUCH, () -> x.about(n, 4));
        }
    }

    private static void count() {
        BallotBox x = Check.used();
        Check.due("count(0)", 3, () -> x.count(0));
        Check.due("count(1)", 5, () -> x.count(1));
        Check.due("count(2)", 4, () -> x.count(2));
        Check.due("count(3)", 1, () -> x.count(3));
        Check.due("count(4)", 1, () -> x.count(4));
        for (int what : Check.beyond(0, 4)) {
            Check.due("count(else)", -1, () -> x.count(what));
        }
        x.need(1);
        Check.due("count(3), two chosen", 2, () -> x.count(3));
        Check.due("count(4), two chosen", 2, () -> x.count(4));
        x.vote(1, 30, 7);
        x.vote(2, 29, 0);
        Check.due("count(3), two alike", 4, () -> x.count(3));
        Check.due("count(4), two alike", 3, () -> x.count(4));
        Check.due("count(2), two more votes", 6, () -> x.count(2));
    }

    private static void refusalsChangeNothing() {
        BallotBox x = Check.used();
        Check.due("refused weight", Check.ARGUMENT, () -> x.weight(0, 51));
        Check.due("refused need", Check.ARGUMENT, () -> x.need(0));
        Check.due("refused promise", Check.STATE, () -> x.promise(3, 8));
        Check.due("refused vote, closed", Check.STATE, () -> x.vote(3, 8, 1));
        Check.due("refused vote, other value", Check.STATE, () -> x.vote(4, 4, 1));
        Check.due("refused vote, no value", Check.NO_SUCH, () -> x.vote(4, 5, 10));
        Check.due("refused ask, not enough", Check.STATE, () -> x.ask(3, 30));
        Check.due("refused ask, promised", Check.STATE, () -> x.ask(31, 8));
        Check.due("refused about", Check.ARGUMENT, () -> x.about(0, 4));
        Check.due("all after refusals", seen(Check.used()), () -> seen(x));
    }

    private static void questionsChangeNothing() {
        BallotBox x = Check.used();
        seen(x);
        x.safe(30, 7);
        x.enough(31);
        x.blocks(31);
        Check.due("all after questions", seen(Check.used()), () -> seen(x));
    }

    /** What README.md shows under 'Use'. */
    private static void exampleOfTheReadme() {
        BallotBox box = new BallotBox();
        Check.due("readme: ask below all votes", -1, () -> box.ask(0b111111, 1));
        for (int node = 0; node < 6; node++) {
            int n = node;
            Check.due("readme: vote", n + 1, () -> box.vote(n, 1, 7));
        }
        Check.due("readme: chosen", 7, () -> box.chosen(1));
        Check.due("readme: can", false, () -> box.can(1, 3));
        Check.due("readme: safe", true, () -> box.safe(2, 7));
        Check.due("readme: ask above a vote", 7, () -> box.ask(0b1111110000, 2));
        Check.due("readme: vote not open", Check.STATE, () -> box.vote(4, 1, 7));
        Check.due("readme: no such ballot", Check.NO_SUCH, () -> box.chosen(31));
    }

    public static void main(String[] args) {
        newObject();
        weight();
        need();
        promise();
        vote();
        ask();
        chosen();
        can();
        safe();
        free();
        enough();
        blocks();
        sets();
        least();
        meet();
        bare();
        about();
        count();
        refusalsChangeNothing();
        questionsChangeNothing();
        exampleOfTheReadme();
        Check.finish();
    }
}
