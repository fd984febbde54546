import java.util.ArrayList;
import java.util.List;

/** The document's 'Terms' and its promise 1, a test for each sentence that names a bound. */
public final class TermsTest {

    /** "NODES 0 .. 9" */
    private static void nodes() {
        BallotBox x = new BallotBox();
        for (int n : Check.NODES) {
            Check.due("weight of node " + n, 1, () -> x.weight(n, n + 10));
            Check.due("promise of node " + n, 0, () -> x.promise(n, n));
            Check.due("vote of node " + n, n + 1, () -> x.vote(n, 20, 4));
        }
        for (int n : Check.NODES) {
            Check.due("about(" + n + ", 0)", n + 10, () -> x.about(n, 0));
            Check.due("about(" + n + ", 1)", 20, () -> x.about(n, 1));
        }
        for (int n : Check.NOT_NODES) {
            Check.refused("weight(" + n + ", 1)", Check.NO_SUCH, y -> y.weight(n, 1));
            Check.refused("promise(" + n + ", 30)", Check.NO_SUCH, y -> y.promise(n, 30));
            Check.refused("vote(" + n + ", 30, 9)", Check.NO_SUCH, y -> y.vote(n, 30, 9));
            for (int what : Check.range(0, 3)) {
                Check.refused("about(" + n + ", " + what + ")", Check.NO_SUCH, y -> y.about(n, what));
            }
        }
    }

    /** "each with a WEIGHT 0 .. 50 (1 at first)" */
    private static void weights() {
        for (int n : new int[] {0, 9}) {
            BallotBox x = new BallotBox();
            Check.due("first weight of " + n, 1, () -> x.weight(n, 0));
            for (int w : Check.range(1, 50)) {
                Check.due("weight(" + n + ", " + w + ")", w - 1, () -> x.weight(n, w));
                Check.due("about after weight " + w, w, () -> x.about(n, 0));
            }
            Check.due("weights together", 59, () -> x.count(1));
            for (int w : Check.NOT_WEIGHTS) {
                Check.refused("weight(" + n + ", " + w + ")", Check.ARGUMENT, y -> y.weight(n, w));
            }
        }
    }

    /** "NEED 1 .. 500 (6 at first)" */
    private static void needs() {
        BallotBox x = new BallotBox();
        Check.due("need(1)", 6, () -> x.need(1));
        for (int k : Check.range(2, 500)) {
            Check.due("need(" + k + ")", k - 1, () -> x.need(k));
        }
        Check.due("need at last", 500, () -> x.count(0));
        for (int k : Check.NOT_NEEDS) {
            Check.refused("need(" + k + ")", Check.ARGUMENT, y -> y.need(k));
        }
    }

    /** "A SET of NODES is a number 0 .. 1023" */
    private static void sets() {
        for (int part : Check.range(0, 3)) {
            BallotBox x = new BallotBox();
            BallotBox y = new BallotBox();
            for (int set : Check.range(part * 256, part * 256 + 255)) {
                int size = Integer.bitCount(set);
                Check.due("enough(" + set + ")", size >= 6, () -> x.enough(set));
                Check.due("blocks(" + set + ")", size >= 5, () -> y.blocks(set));
            }
        }
        for (int set : Check.NOT_SETS) {
            Check.refused("enough(" + set + ")", Check.NO_SUCH, y -> y.enough(set));
            Check.refused("blocks(" + set + ")", Check.NO_SUCH, y -> y.blocks(set));
            Check.refused("ask(" + set + ", 30)", Check.NO_SUCH, y -> y.ask(set, 30));
        }
    }

    /** "bit n for NODE n" */
    private static void bits() {
        for (int n : Check.NODES) {
            int set = 1 << n;
            int rest = 1023 - set;
            BallotBox x = Check.even(2, 0);
            x.weight(n, 2);
            Check.due("enough: node " + n + " alone", true, () -> x.enough(set));
            Check.due("enough: all but " + n, false, () -> x.enough(rest));
            Check.due("blocks: node " + n + " alone", true, () -> x.blocks(set));
            Check.due("blocks: all but " + n, false, () -> x.blocks(rest));
            Check.due("ask: node " + n + " alone", -1, () -> x.ask(set, 30));
            for (int other : Check.NODES) {
                Check.due("promised by " + other, other == n ? 30 : 0, () -> x.about(other, 1));
            }
            Check.due("ask: all but " + n, Check.STATE, () -> x.ask(rest, 30));
        }
    }

    /** "it is ENOUGH if its WEIGHTS together are at least NEED" */
    private static void enough() {
        BallotBox x = Check.weighted(12, 5, 4, 3, 2);
        Check.due("enough: need and one more", true, () -> x.enough(0b1111));
        Check.due("enough: just need", true, () -> x.enough(0b0111));
        Check.due("enough: one short", false, () -> x.enough(0b1011));
        Check.due("enough: just need, with all that weigh nothing", true, () -> x.enough(0b1111110111));
        Check.due("enough: one short, with all that weigh nothing", false, () -> x.enough(0b1111111011));
        BallotBox y = Check.even(500, 50);
        Check.due("enough: all, at the highest need", true, () -> y.enough(1023));
        Check.due("enough: all but one, at the highest need", false, () -> y.enough(1023 - 512));
        y.weight(9, 49);
        Check.due("enough: all, one short of the highest need", false, () -> y.enough(1023));
        BallotBox z = Check.weighted(1, 1);
        Check.due("enough: a weight of 1, at the lowest need", true, () -> z.enough(1));
        Check.due("enough: weights of 0, at the lowest need", false, () -> z.enough(1022));
        Check.due("enough: the empty set, at the lowest need", false, () -> z.enough(0));
    }

    /** "BALLOTS 0 .. 30" */
    private static void ballots() {
        BallotBox x = Check.weighted(1, 1);
        for (int b : Check.BALLOTS) {
            Check.due("chosen(" + b + ") ahead of a vote", -1, () -> x.chosen(b));
            Check.due("can(" + b + ", 0)", true, () -> x.can(b, 0));
            Check.due("promise(0, " + b + ")", Math.max(0, b - 1), () -> x.promise(0, b));
            Check.due("safe(" + b + ", 5)", true, () -> x.safe(b, 5));
            Check.due("free(" + b + ")", b == 0 ? 10 : 1, () -> x.free(b));
            Check.due("vote(0, " + b + ", 5)", 1, () -> x.vote(0, b, 5));
            Check.due("chosen(" + b + ")", 5, () -> x.chosen(b));
            Check.due("ask(1, " + b + ")", b == 0 ? -1 : 5, () -> x.ask(1, b));
        }
        for (int b : Check.NOT_BALLOTS) {
            Check.refused("promise(8, " + b + ")", Check.NO_SUCH, y -> y.promise(8, b));
            Check.refused("vote(8, " + b + ", 1)", Check.NO_SUCH, y -> y.vote(8, b, 1));
            Check.refused("ask(512, " + b + ")", Check.NO_SUCH, y -> y.ask(512, b));
            Check.refused("chosen(" + b + ")", Check.NO_SUCH, y -> y.chosen(b));
            Check.refused("can(" + b + ", 1)", Check.NO_SUCH, y -> y.can(b, 1));
            Check.refused("safe(" + b + ", 1)", Check.NO_SUCH, y -> y.safe(b, 1));
            Check.refused("free(" + b + ")", Check.NO_SUCH, y -> y.free(b));
        }
    }

    /** "VALUES 0 .. 9" */
    private static void values() {
        BallotBox x = Check.weighted(1, 1);
        for (int v : Check.VALUES) {
            int b = 3 * v;
            Check.due("can(" + b + ", " + v + ")", true, () -> x.can(b, v));
            Check.due("safe(0, " + v + ")", true, () -> x.safe(0, v));
            Check.due("vote(0, " + b + ", " + v + ")", 1, () -> x.vote(0, b, v));
            Check.due("chosen(" + b + ")", v, () -> x.chosen(b));
            Check.due("ask(1, " + (b + 1) + ")", v, () -> x.ask(1, b + 1));
        }
        for (int v : Check.NOT_VALUES) {
            Check.refused("vote(8, 20, " + v + ")", Check.NO_SUCH, y -> y.vote(8, 20, v));
            Check.refused("can(20, " + v + ")", Check.NO_SUCH, y -> y.can(20, v));
            Check.refused("safe(20, " + v + ")", Check.NO_SUCH, y -> y.safe(20, v));
            Check.refused("safe(0, " + v + ")", Check.NO_SUCH, y -> y.safe(0, v));
        }
    }

    /** "Each NODE has PROMISED a BALLOT (0 at first), and has for each BALLOT a VOTE, a VALUE, or none." */
    private static void newObject() {
        List<Object> all = new ArrayList<>(List.of(6, 10, 0, 0, 0));
        for (int n : Check.NODES) {
            all.addAll(List.of(1, 0, 0, -1));
        }
        all.addAll(List.of(386, 6, true, 210));
        for (int b : Check.BALLOTS) {
            all.addAll(List.of(true, true));
        }
        for (int i = 0; i < 310; i++) {
            all.add(-1);
        }
        Check.due("all of a new object", all, () -> Check.whole(new BallotBox()));
        BallotBox other = new BallotBox();
        Check.whole(Check.busy());
        Check.due("all of an object while another is used", all, () -> Check.whole(other));
    }

    /** "A NODE is OPEN in a BALLOT if it has no VOTE there and has not PROMISED a higher one." */
    private static void open() {
        for (int b : new int[] {0, 1, 15, 29, 30}) {
            BallotBox x = Check.weighted(1, 1);
            Check.due("open in " + b + " with a lower promise", true, () -> x.can(b, 2));
            x.promise(0, b);
            Check.due("open in " + b + " with the same promise", true, () -> x.can(b, 2));
            Check.due("vote in " + b + " with the same promise", 1, () -> x.vote(0, b, 2));
            Check.due("vote in " + b + " with a vote there", Check.STATE, () -> x.vote(0, b, 2));
        }
        for (int b : new int[] {1, 15, 29, 30}) {
            BallotBox x = Check.weighted(1, 1);
            x.promise(0, b);
            for (int lower : Check.range(0, b - 1)) {
                Check.due("open in " + lower + ", promised " + b, false, () -> x.can(lower, 2));
                Check.due("vote in " + lower + ", promised " + b, Check.STATE, () -> x.vote(0, lower, 2));
            }
            for (int higher : Check.range(b, 30)) {
                Check.due("open in " + higher + ", promised " + b, true, () -> x.can(higher, 2));
            }
        }
    }

    /** A node that has a vote is not open there, so the vote is not weighed twice. */
    private static void votersAreNotOpenToo() {
        BallotBox x = Check.weighted(3, 2);
        x.vote(0, 5, 1);
        Check.due("can, by one vote too light", false, () -> x.can(5, 1));
        x.need(2);
        Check.due("can, by one vote just enough", true, () -> x.can(5, 1));
    }

    /** "A VALUE is CHOSEN in a BALLOT if those that voted for it there are ENOUGH" */
    private static void chosen() {
        BallotBox x = Check.busy();
        Check.due("chosen by just enough", 7, () -> x.chosen(4));
        x.need(13);
        Check.due("not chosen, one short", -1, () -> x.chosen(4));
        x.vote(5, 4, 7);
        Check.due("not chosen with a vote that weighs nothing", -1, () -> x.chosen(4));
        x.weight(5, 1);
        Check.due("chosen with a vote that weighs one", 7, () -> x.chosen(4));
        x.need(1);
        x.weight(5, 0);
        Check.due("not chosen by weight 0, at the lowest need", -1, () -> x.chosen(1));
        Check.due("not chosen by nobody, at the lowest need", -1, () -> x.chosen(3));
        Check.due("chosen in ballot 0", 0, () -> x.chosen(0));
        Check.due("chosen in ballot 30", 9, () -> x.chosen(30));
        x.need(14);
        Check.due("open nodes do not choose", -1, () -> x.chosen(30));
    }

    /** "it CAN BE if they and those that are OPEN there are, and none there voted for another one" */
    private static void canBe() {
        BallotBox x = Check.weighted(10, 4, 3, 2, 1);
        x.vote(0, 5, 6);
        Check.due("can, voters and open ones just enough", true, () -> x.can(5, 6));
        x.promise(3, 6);
        Check.due("can, one short", false, () -> x.can(5, 6));
        x.need(9);
        Check.due("can, just enough again", true, () -> x.can(5, 6));
        for (int v : Check.VALUES) {
            Check.due("can(5, " + v + ")", v == 6, () -> x.can(5, v));
        }
        x.vote(9, 7, 2);
        for (int v : Check.VALUES) {
            Check.due("can(7, " + v + ") by a vote that weighs nothing", v == 2, () -> x.can(7, v));
            Check.due("can(8, " + v + ") without votes", true, () -> x.can(8, v));
        }
        x.ask(0b1111, 30);
        Check.due("can, open ones gone", false, () -> x.can(5, 6));
        x.need(4);
        Check.due("can, chosen without open ones", true, () -> x.can(5, 6));
        x.need(5);
        Check.due("can, not chosen without open ones", false, () -> x.can(5, 6));
    }

    /** "A VALUE is SAFE in a BALLOT if no other one CAN BE chosen in any lower BALLOT." */
    private static void safe() {
        for (int lower : Check.range(0, 29)) {
            BallotBox x = Check.weighted(1, 1, 0);
            if (lower > 0) {
                x.promise(0, lower);
            }
            x.vote(0, lower, 4);
            x.promise(0, 30);
            Check.due("safe in " + lower + ", voted there", true, () -> x.safe(lower, 3));
            Check.due("safe above " + lower + ", another one", false, () -> x.safe(lower + 1, 3));
            Check.due("safe above " + lower + ", the same", true, () -> x.safe(lower + 1, 4));
            Check.due("safe in 30, another one", false, () -> x.safe(30, 3));
            Check.due("safe in 30, the same", true, () -> x.safe(30, 4));
            Check.due("free in " + lower, 10, () -> x.free(lower));
            Check.due("free above " + lower, 1, () -> x.free(lower + 1));
        }
    }

    /** "NoSuchElementException: a NODE, SET, BALLOT or VALUE that there is not, ahead of others." */
    private static void aheadOfOthers() {
        for (int n : Check.NOT_NODES) {
            for (int w : new int[] {-1, 51}) {
                Check.refused("weight(" + n + ", " + w + ")", Check.NO_SUCH, x -> x.weight(n, w));
            }
            for (int what : new int[] {-1, 4}) {
                Check.refused("about(" + n + ", " + what + ")", Check.NO_SUCH, x -> x.about(n, what));
            }
            Check.refused("vote(" + n + ", 4, 6)", Check.NO_SUCH, x -> x.vote(n, 4, 6));
        }
        for (int b : Check.NOT_BALLOTS) {
            Check.refused("promised 30, promise(6, " + b + ")", Check.NO_SUCH, x -> x.promise(6, b));
            Check.refused("promised 30, vote(6, " + b + ", 1)", Check.NO_SUCH, x -> x.vote(6, b, 1));
            Check.refused("not enough, ask(1, " + b + ")", Check.NO_SUCH, x -> x.ask(1, b));
            Check.refused("the empty set, ask(0, " + b + ")", Check.NO_SUCH, x -> x.ask(0, b));
            Check.refused("promised 30, ask(1023, " + b + ")", Check.NO_SUCH, x -> x.ask(1023, b));
        }
        for (int v : Check.NOT_VALUES) {
            Check.refused("voted there, vote(0, 4, " + v + ")", Check.NO_SUCH, x -> x.vote(0, 4, v));
            Check.refused("promised more, vote(6, 3, " + v + ")", Check.NO_SUCH, x -> x.vote(6, 3, v));
            Check.refused("another value, vote(8, 4, " + v + ")", Check.NO_SUCH, x -> x.vote(8, 4, v));
        }
        for (int set : Check.NOT_SETS) {
            Check.refused("promised more, ask(" + set + ", 0)", Check.NO_SUCH, x -> x.ask(set, 0));
        }
    }

    /** "What throws changes nothing": nor do many refusals one after the other. */
    private static void manyRefusals() {
        BallotBox x = Check.busy();
        for (int i = 0; i < 4; i++) {
            Check.due("refused weight", Check.ARGUMENT, () -> x.weight(0, 51));
            Check.due("refused need", Check.ARGUMENT, () -> x.need(0));
            Check.due("refused promise", Check.STATE, () -> x.promise(6, 29));
            Check.due("refused vote, promised", Check.STATE, () -> x.vote(6, 29, 1));
            Check.due("refused vote, another value", Check.STATE, () -> x.vote(8, 4, 1));
            Check.due("refused ask, not enough", Check.STATE, () -> x.ask(0b1011, 30));
            Check.due("refused ask, promised", Check.STATE, () -> x.ask(1023, 29));
            Check.due("refused about", Check.ARGUMENT, () -> x.about(0, 4));
            Check.due("refused chosen", Check.NO_SUCH, () -> x.chosen(31));
        }
        Check.due("all after many refusals", Check.whole(Check.busy()), () -> Check.whole(x));
    }

    private static void askAll(BallotBox x) {
        for (int what : Check.range(-1, 5)) {
            x.count(what);
        }
        for (int b : new int[] {0, 4, 30}) {
            x.chosen(b);
            x.can(b, 7);
            x.safe(b, 7);
            x.free(b);
            x.about(b % 10, 3);
        }
        for (int set : new int[] {0, 7, 512, 1023}) {
            x.enough(set);
            x.blocks(set);
        }
        x.sets();
        x.least();
        x.meet();
        x.bare();
    }

    /** Questions change nothing: the document tells of no change by them. */
    private static void questions() {
        BallotBox x = Check.busy();
        askAll(x);
        Check.due("all after questions", Check.whole(Check.busy()), () -> Check.whole(x));
    }

    /** "An object is used for at most 512 calls after it has been made": the last ones are right too. */
    private static void lastCalls() {
        BallotBox x = Check.full();
        for (int call : Check.range(311, 506)) {
            boolean odd = call % 2 == 1;
            Check.due("call " + call + ": need", odd ? 6 : 10, () -> x.need(odd ? 10 : 6));
        }
        Check.due("call 507: chosen(29)", 9, () -> x.chosen(29));
        Check.due("call 508: vote in the full box", Check.STATE, () -> x.vote(9, 30, 0));
        Check.due("call 509: votes", 310, () -> x.count(2));
        Check.due("call 510: free(30)", 0, () -> x.free(30));
        Check.due("call 511: ask(1023, 30)", 9, () -> x.ask(1023, 30));
        Check.due("call 512: about(9, 3)", 30, () -> x.about(9, 3));
    }

    public static void main(String[] args) {
        nodes();
        weights();
        needs();
        sets();
        bits();
        enough();
        ballots();
        values();
        newObject();
        open();
        votersAreNotOpenToo();
        chosen();
        canBe();
        safe();
        aheadOfOthers();
        manyRefusals();
        questions();
        lastCalls();
        Check.finish();
    }
}
