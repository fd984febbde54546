/** Promises 2 to 18, a test for each sentence that names a boundary case or a refusal. */
public final class BoundaryTest {

    /** 2: "A NODE's WEIGHT is w: what it was." */
    private static void weightIsWhatItWas() {
        BallotBox x = new BallotBox();
        Check.due("weight to the lowest", 1, () -> x.weight(0, 0));
        Check.due("weight 0 again", 0, () -> x.weight(0, 0));
        Check.due("weight to the highest", 0, () -> x.weight(0, 50));
        Check.due("weight 50 again", 50, () -> x.weight(0, 50));
        Check.due("weight back to 1", 50, () -> x.weight(0, 1));
        Check.due("weight of the last node", 1, () -> x.weight(9, 50));
        for (int n : Check.range(0, 8)) {
            Check.due("weight of another node", 1, () -> x.about(n, 0));
        }
        BallotBox y = Check.used();
        y.weight(0, 0);
        Check.due("a vote stays when its weight goes", 4, () -> y.count(2));
        Check.due("not chosen without the weight", -1, () -> y.chosen(4));
        y.weight(0, 1);
        Check.due("chosen with the weight again", 7, () -> y.chosen(4));
    }

    /** 2: "IllegalArgumentException: it can't be." */
    private static void weightRefused() {
        for (int n : Check.NODES) {
            for (int w : Check.NOT_WEIGHTS) {
                Check.refused("weight(" + n + ", " + w + ")", Check.ARGUMENT, x -> x.weight(n, w));
            }
        }
    }

    /** 3: "NEED is k: what it was." */
    private static void needIsWhatItWas() {
        BallotBox x = new BallotBox();
        Check.due("need to the highest", 6, () -> x.need(500));
        Check.due("need 500 again", 500, () -> x.need(500));
        Check.due("need to the lowest", 500, () -> x.need(1));
        Check.due("need 1 again", 1, () -> x.need(1));
        Check.due("need as it is", 1, () -> x.count(0));
    }

    /** 3: "IllegalArgumentException: it can't be." */
    private static void needRefused() {
        for (int k : Check.NOT_NEEDS) {
            Check.refused("need(" + k + ") of a new object", Check.ARGUMENT,
                BallotBox::new, x -> x.need(k));
            Check.refused("need(" + k + ") at 500", Check.ARGUMENT,
                () -> Check.even(500, 50), x -> x.need(k));
            Check.refused("need(" + k + ") at 1", Check.ARGUMENT,
                () -> Check.even(1, 0), x -> x.need(k));
        }
    }

    /** 4: "A NODE has PROMISED b: what it had." */
    private static void promiseIsWhatItHad() {
        for (int n : Check.NODES) {
            BallotBox x = new BallotBox();
            Check.due("promise of 0 at first", 0, () -> x.promise(n, 0));
            for (int b : Check.range(1, 30)) {
                Check.due("promise of " + b, b - 1, () -> x.promise(n, b));
                Check.due("promise of " + b + " again", b, () -> x.promise(n, b));
            }
            for (int other : Check.NODES) {
                Check.due("promised by " + other, other == n ? 30 : 0, () -> x.about(other, 1));
            }
            Check.due("no vote by a promise", 0, () -> x.count(2));
        }
        BallotBox y = new BallotBox();
        Check.due("promise from 0 to 30", 0, () -> y.promise(3, 30));
        BallotBox z = Check.busy();
        Check.due("promise of a vote's ballot", 4, () -> z.promise(0, 4));
        Check.due("promise above a vote", 4, () -> z.promise(0, 5));
        Check.due("promise in the last ballot with a vote", 30, () -> z.promise(7, 30));
    }

    /** 4: "IllegalStateException: that was a higher one." */
    private static void promiseRefused() {
        for (int had : Check.range(1, 30)) {
            BallotBox x = new BallotBox();
            x.promise(5, had);
            for (int b : Check.range(0, had - 1)) {
                Check.due("promise of " + b + " after " + had, Check.STATE, () -> x.promise(5, b));
            }
            Check.due("promised after refusals", had, () -> x.promise(5, had));
        }
        Check.refused("promise just below", Check.STATE, x -> x.promise(6, 29));
        Check.refused("promise of 0", Check.STATE, x -> x.promise(6, 0));
        Check.refused("promise just below a vote", Check.STATE, x -> x.promise(0, 3));
        Check.refused("promise below a vote in the last ballot", Check.STATE, x -> x.promise(7, 29));
        Check.refused("promise in the ballot of an earlier vote", Check.STATE, x -> x.promise(1, 2));
        Check.refused("promise by a node without weight", Check.STATE, x -> x.promise(5, 0));
    }

    /** 5: "A NODE votes for v in b, and has PROMISED b" */
    private static void votePromises() {
        BallotBox x = new BallotBox();
        for (int b : new int[] {0, 1, 29, 30}) {
            x.vote(3, b, 9 - b % 10);
            Check.due("promised after a vote in " + b, b, () -> x.about(3, 1));
            Check.due("highest ballot after a vote in " + b, b, () -> x.about(3, 3));
        }
        Check.due("promised by another node", 0, () -> x.about(2, 1));
        BallotBox y = new BallotBox();
        y.promise(0, 7);
        Check.due("vote above a promise", 1, () -> y.vote(0, 8, 0));
        Check.due("promised after a promise and a vote", 8, () -> y.about(0, 1));
        Check.due("vote where it has just voted, a ballot higher", 1, () -> y.vote(0, 9, 1));
    }

    /** 5: "how many have voted there" */
    private static void votesAreCounted() {
        BallotBox x = Check.even(6, 0);
        for (int n : Check.NODES) {
            Check.due("votes in 0, weights all 0", n + 1, () -> x.vote(n, 0, 0));
        }
        for (int n : Check.NODES) {
            Check.due("votes in 30", n + 1, () -> x.vote(9 - n, 30, 9));
        }
        Check.due("votes", 20, () -> x.count(2));
    }

    /** 5: "IllegalStateException: it is not OPEN there" */
    private static void voteRefusedNotOpen() {
        Check.refused("vote twice", Check.STATE, x -> x.vote(0, 4, 7));
        Check.refused("vote twice in the last ballot", Check.STATE, x -> x.vote(7, 30, 9));
        Check.refused("vote twice without weight", Check.STATE, x -> x.vote(5, 1, 2));
        Check.refused("vote where it voted before", Check.STATE, x -> x.vote(0, 0, 0));
        Check.refused("vote just below a promise", Check.STATE, x -> x.vote(6, 29, 1));
        Check.refused("vote in 0 below a promise", Check.STATE, x -> x.vote(6, 0, 0));
        Check.refused("vote just below a vote", Check.STATE, x -> x.vote(0, 3, 7));
        Check.refused("vote below, where none has voted", Check.STATE, x -> x.vote(4, 8, 7));
        Check.refused("vote below, for what others voted", Check.STATE, x -> x.vote(4, 4, 7));
    }

    private static void refusedBeside(int b, int votedFor, int v) {
        if (v != votedFor) {
            Check.refused("vote(8, " + b + ", " + v + ")", Check.STATE, x -> x.vote(8, b, v));
        }
    }

    /** 5: "or another one has voted for another VALUE there" */
    private static void voteRefusedOtherValue() {
        for (int v : Check.VALUES) {
            refusedBeside(4, 7, v);
            refusedBeside(0, 0, v);
            refusedBeside(30, 9, v);
            // Here only a node without weight has voted.
            refusedBeside(1, 2, v);
        }
        Check.refused("another value, and voted there", Check.STATE, x -> x.vote(0, 4, 6));
        Check.refused("another value, and promised more", Check.STATE, x -> x.vote(6, 4, 6));
        Check.refused("another value by a node without weight", Check.STATE, x -> x.vote(5, 4, 6));
        BallotBox y = Check.busy();
        Check.due("the same value beside a weight of 0", 2, () -> y.vote(8, 1, 2));
        Check.due("the same value", 4, () -> y.vote(8, 4, 7));
        Check.due("another value in the ballot above", 1, () -> y.vote(8, 5, 6));
    }

    /** 5: a node that has voted in all ballots. */
    private static void voteInFullBox() {
        BallotBox x = Check.full();
        for (int b : Check.BALLOTS) {
            Check.due("vote in a full ballot " + b, Check.STATE, () -> x.vote(b % 10, b, b % 10));
        }
        x.need(10);
        for (int b : Check.BALLOTS) {
            Check.due("chosen by all in " + b, b % 10, () -> x.chosen(b));
        }
        for (int n : Check.NODES) {
            Check.due("ballots of " + n, 31, () -> x.about(n, 2));
            Check.due("highest of " + n, 30, () -> x.about(n, 3));
        }
        Check.due("ask the full box, below 30", 9, () -> x.ask(1023, 30));
        Check.due("ask the full box, at 29", Check.STATE, () -> x.ask(1023, 29));
    }

    /** 6: "All of a SET promise b" */
    private static void askPromisesAll() {
        for (int set : new int[] {0b0000000111, 0b1110000000, 0b1010101010, 1023}) {
            BallotBox x = Check.even(3, 1);
            Check.due("ask(" + set + ", 30)", -1, () -> x.ask(set, 30));
            for (int n : Check.NODES) {
                Check.due("promised by " + n, (set >> n) % 2 * 30, () -> x.about(n, 1));
            }
            Check.due("no vote by asking", 0, () -> x.count(2));
        }
        BallotBox y = Check.weighted(1, 1);
        Check.due("ask with all that weigh nothing", -1, () -> y.ask(1023, 12));
        Check.due("one that weighs nothing promises too", 12, () -> y.about(9, 1));
    }

    /** 6: "the VALUE of the highest BALLOT below b in which one of them has voted" */
    private static void askHighestBelow() {
        BallotBox x = Check.even(2, 1);
        x.vote(0, 0, 0);
        x.vote(1, 3, 9);
        x.vote(2, 5, 4);
        Check.due("ask: in ballot 0, for value 0", 0, () -> x.ask(0b1000000001, 6));
        Check.due("ask: just below b", 4, () -> x.ask(0b101, 6));
        Check.due("ask: the higher one, not the first node's", 9, () -> x.ask(0b011, 6));
        Check.due("ask: a higher one beside the set does not count", 9, () -> x.ask(0b1000000010, 6));
        x.vote(0, 6, 8);
        Check.due("ask: in b itself does not count", 9, () -> x.ask(0b011, 6));
        Check.due("ask: just above it counts", 8, () -> x.ask(0b011, 7));
        x.vote(9, 29, 1);
        Check.due("ask: at 29", 9, () -> x.ask(0b1000000010, 29));
        Check.due("ask: in 29, at 30", 1, () -> x.ask(0b1000000010, 30));
        x.weight(9, 0);
        x.need(1);
        Check.due("ask: a vote that weighs nothing counts", 1, () -> x.ask(0b1000000010, 30));
    }

    /** 6: "-1: none has" */
    private static void askNone() {
        BallotBox x = Check.even(2, 1);
        Check.due("ask: none has voted", -1, () -> x.ask(0b11, 1));
        x.vote(2, 0, 3);
        Check.due("ask: one beside the set has", -1, () -> x.ask(0b11, 2));
        x.vote(0, 2, 3);
        x.vote(1, 2, 3);
        Check.due("ask: only in b", -1, () -> x.ask(0b11, 2));
        BallotBox y = Check.even(2, 1);
        y.vote(0, 0, 3);
        Check.due("ask: nothing is below ballot 0", -1, () -> y.ask(0b11, 0));
    }

    /** 6: "IllegalStateException: the SET is not ENOUGH" */
    private static void askRefusedNotEnough() {
        Check.refused("ask the empty set", Check.STATE, x -> x.ask(0, 30));
        Check.refused("ask one short", Check.STATE, x -> x.ask(0b1011, 30));
        Check.refused("ask one short, and one that weighs nothing", Check.STATE, x -> x.ask(0b101011, 30));
        Check.refused("ask one short, promised more", Check.STATE, x -> x.ask(0b1000011, 0));
        for (int set : new int[] {0, 1, 1023}) {
            Check.refused("ask(" + set + ", 30), weights all 0", Check.STATE,
                () -> Check.even(1, 0), x -> x.ask(set, 30));
            Check.refused("ask(" + set + ", 30), a need beyond all", Check.STATE,
                () -> Check.even(500, 49), x -> x.ask(set, 30));
        }
        BallotBox x = Check.even(500, 50);
        Check.due("ask all, at the highest need", -1, () -> x.ask(1023, 30));
        BallotBox y = Check.busy();
        Check.due("ask just enough", 7, () -> y.ask(0b0111, 30));
    }

    /** 6: "or one of them had PROMISED a higher one (then none does)" */
    private static void askRefusedPromised() {
        for (int n : Check.NODES) {
            for (int b : new int[] {0, 14, 29}) {
                Check.refused("ask all for " + b + ", node " + n + " promised one more", Check.STATE, () -> {
                    BallotBox x = new BallotBox();
                    x.promise(n, b + 1);
                    return x;
                }, x -> x.ask(1023, b));
            }
            BallotBox y = new BallotBox();
            y.promise(n, 15);
            Check.due("ask all, node " + n + " promised the same", -1, () -> y.ask(1023, 15));
            y.promise(n, 30);
            Check.due("ask all but the one that promised more", -1, () -> y.ask(1023 - (1 << n), 16));
        }
        Check.refused("ask: one that weighs nothing promised more", Check.STATE, x -> x.ask(0b1000100000, 0));
        Check.refused("ask: a vote is a promise", Check.STATE, x -> x.ask(0b111, 3));
        Check.refused("ask: one of all promised more", Check.STATE, x -> x.ask(1023, 29));
    }

    /** 7: "The VALUE that is CHOSEN in b; -1: none." */
    private static void chosenOrNone() {
        BallotBox x = Check.even(500, 50);
        for (int n : Check.NODES) {
            Check.due("chosen(30) ahead of the vote of " + n, -1, () -> x.chosen(30));
            x.vote(n, 30, 0);
        }
        Check.due("chosen by all, value 0", 0, () -> x.chosen(30));
        Check.due("not chosen just below", -1, () -> x.chosen(29));
        x.weight(4, 49);
        Check.due("not chosen, one short", -1, () -> x.chosen(30));
        BallotBox y = Check.even(1, 0);
        for (int n : Check.NODES) {
            y.vote(n, 0, 9);
        }
        Check.due("not chosen, weights all 0", -1, () -> y.chosen(0));
        y.weight(9, 1);
        Check.due("chosen by the only weight, value 9", 9, () -> y.chosen(0));
        Check.due("not chosen just above", -1, () -> y.chosen(1));
    }

    /** 8: "Whether v CAN BE chosen in b." */
    private static void canOrNot() {
        BallotBox x = Check.even(1, 0);
        Check.due("can, weights all 0", false, () -> x.can(0, 0));
        x.weight(9, 1);
        Check.due("can, one weight, lowest ballot and value", true, () -> x.can(0, 0));
        Check.due("can, one weight, highest ballot and value", true, () -> x.can(30, 9));
        BallotBox y = Check.even(500, 50);
        Check.due("can, by all, at the highest need", true, () -> y.can(30, 9));
        y.promise(0, 30);
        Check.due("can, one has promised the same", true, () -> y.can(30, 9));
        Check.due("can, one has promised one more", false, () -> y.can(29, 9));
        BallotBox z = Check.full();
        for (int v : Check.VALUES) {
            Check.due("can(30, " + v + ") in the full box", v == 0, () -> z.can(30, v));
            Check.due("can(9, " + v + ") in the full box", v == 9, () -> z.can(9, v));
        }
        z.need(11);
        Check.due("can in the full box, a need beyond all", false, () -> z.can(30, 0));
    }

    /** 9: "Whether v is SAFE in b." */
    private static void safeOrNot() {
        BallotBox x = new BallotBox();
        BallotBox y = Check.even(1, 0);
        for (int v : Check.VALUES) {
            Check.due("safe(0, " + v + "): nothing is lower", true, () -> x.safe(0, v));
            Check.due("safe(1, " + v + "): all can be in 0", false, () -> x.safe(1, v));
            Check.due("safe(30, " + v + "): all can be below", false, () -> x.safe(30, v));
            Check.due("safe(30, " + v + "), weights all 0", true, () -> y.safe(30, v));
        }
        BallotBox z = Check.even(5, 1);
        z.ask(0b11111, 30);
        z.need(6);
        for (int v : Check.VALUES) {
            Check.due("safe(30, " + v + "): too few are open", true, () -> z.safe(30, v));
        }
        z.need(5);
        Check.due("safe: just enough are open", false, () -> z.safe(30, 0));
        z.promise(5, 29);
        Check.due("safe: open in 29 alone", false, () -> z.safe(30, 0));
        Check.due("safe: not open below 29", true, () -> z.safe(29, 0));
    }

    /** 9 and 10: a vote that weighs nothing leaves its value alone to be chosen, too. */
    private static void safeBesideNoWeight() {
        BallotBox x = Check.weighted(1, 1);
        x.vote(9, 0, 4);
        for (int v : Check.VALUES) {
            Check.due("safe(1, " + v + ")", v == 4, () -> x.safe(1, v));
        }
        Check.due("free(1)", 1, () -> x.free(1));
        x.vote(0, 0, 4);
        Check.due("free(1), chosen", 1, () -> x.free(1));
    }

    /** 10: "How many VALUES are SAFE in b.": all ten, one, or none. */
    private static void freeTenOneNone() {
        for (int v : Check.VALUES) {
            BallotBox x = Check.weighted(1, 1);
            Check.due("free(0) of an unused one", 10, () -> x.free(0));
            Check.due("free(1) of an unused one", 0, () -> x.free(1));
            x.vote(0, 0, v);
            Check.due("free(0) after a vote there", 10, () -> x.free(0));
            Check.due("free(1) after a vote for " + v, 1, () -> x.free(1));
            Check.due("free(2), 1 is open", 0, () -> x.free(2));
            x.vote(0, 30, 9 - v);
            Check.due("free(30) after votes for two, one in 30", 1, () -> x.free(30));
            x.weight(0, 0);
            Check.due("free(30), weights all 0", 10, () -> x.free(30));
        }
        BallotBox y = Check.full();
        Check.due("free(0) in the full box", 10, () -> y.free(0));
        Check.due("free(1) in the full box", 1, () -> y.free(1));
        Check.due("free(2) in the full box", 0, () -> y.free(2));
        y.need(11);
        Check.due("free(30) in the full box, a need beyond all", 10, () -> y.free(30));
    }

    /** 11: "Whether a SET is ENOUGH." */
    private static void enoughOrNot() {
        BallotBox x = new BallotBox();
        Check.due("the empty set", false, () -> x.enough(0));
        Check.due("the full set", true, () -> x.enough(1023));
        x.need(10);
        Check.due("the full set, just enough", true, () -> x.enough(1023));
        x.need(11);
        Check.due("the full set, one short", false, () -> x.enough(1023));
        BallotBox y = Check.even(1, 0);
        Check.due("the full set, weights all 0", false, () -> y.enough(1023));
        y.weight(9, 1);
        Check.due("the highest node alone", true, () -> y.enough(512));
        Check.due("all but the highest", false, () -> y.enough(511));
    }

    /** 12: "Whether each SET that is ENOUGH has a NODE of this one" */
    private static void blocksOrNot() {
        BallotBox x = new BallotBox();
        Check.due("the empty set does not block", false, () -> x.blocks(0));
        Check.due("the full set blocks", true, () -> x.blocks(1023));
        x.need(10);
        Check.due("one of ten that are all needed", true, () -> x.blocks(512));
        x.need(9);
        Check.due("one of ten when nine are needed", false, () -> x.blocks(512));
        x.need(1);
        Check.due("all but one when one is needed", false, () -> x.blocks(511));
        BallotBox y = Check.weighted(2, 1, 1, 1);
        Check.due("nodes without weight", false, () -> y.blocks(1016));
        Check.due("one of three", false, () -> y.blocks(1));
        Check.due("two of three", true, () -> y.blocks(3));
        BallotBox z = Check.weighted(8, 5, 3, 4);
        Check.due("not enough itself, but in each", true, () -> z.blocks(0b001));
        Check.due("the rest just enough", false, () -> z.blocks(0b010));
    }

    /** 12: "(true, too, if none is)" */
    private static void blocksIfNoneIs() {
        for (int set : new int[] {0, 1, 512, 1023}) {
            Check.due("blocks(" + set + "), weights all 0", true, () -> Check.even(1, 0).blocks(set));
            Check.due("blocks(" + set + "), a need beyond all", true, () -> Check.even(500, 49).blocks(set));
        }
        Check.due("blocks(0), just one short", true, () -> Check.weighted(8, 4, 3).blocks(0));
        Check.due("blocks(0), just enough", false, () -> Check.weighted(7, 4, 3).blocks(0));
    }

    /** 13: "How many SETS are ENOUGH." */
    private static void setsFromNoneToAll() {
        Check.due("sets, weights all 0", 0, () -> Check.even(1, 0).sets());
        Check.due("sets, a need one beyond all", 0, () -> Check.even(11, 1).sets());
        Check.due("sets, all are needed", 1, () -> Check.even(10, 1).sets());
        Check.due("sets, nine are needed", 11, () -> Check.even(9, 1).sets());
        Check.due("sets, one is needed", 1023, () -> Check.even(1, 1).sets());
        Check.due("sets, highest weights and need", 1, () -> Check.even(500, 50).sets());
        Check.due("sets, highest weights, lowest need", 1023, () -> Check.even(1, 50).sets());
        Check.due("sets, one weight", 512, () -> Check.weighted(1, 0, 0, 0, 0, 0, 0, 0, 0, 0, 1).sets());
    }

    /** 14: "How many NODES the smallest SET has that is ENOUGH; -1: none is." */
    private static void leastOrNone() {
        for (int k : Check.range(1, 10)) {
            Check.due("least for need " + k, k, () -> Check.even(k, 1).least());
        }
        Check.due("least, a need one beyond all", -1, () -> Check.even(11, 1).least());
        Check.due("least, weights all 0", -1, () -> Check.even(1, 0).least());
        Check.due("least, highest weights and need", 10, () -> Check.even(500, 50).least());
        Check.due("least, one short of the highest need", -1, () -> Check.even(500, 49).least());
        Check.due("least, the heavy ones come last", 2,
            () -> Check.weighted(20, 1, 2, 3, 4, 5, 6, 7, 8, 9, 11).least());
        Check.due("least, one short by the two heavy ones", 3,
            () -> Check.weighted(21, 1, 2, 3, 4, 5, 6, 7, 8, 9, 11).least());
    }

    /** 15: "Whether any two SETS that are ENOUGH have a NODE in common" */
    private static void meetOrNot() {
        Check.due("meet, half is enough", false, () -> Check.even(5, 1).meet());
        Check.due("meet, half is one short", true, () -> Check.even(6, 1).meet());
        Check.due("meet, one is enough", false, () -> Check.even(1, 1).meet());
        Check.due("meet, only the full set is enough", true, () -> Check.even(10, 1).meet());
        Check.due("meet, only the highest need", true, () -> Check.even(500, 50).meet());
        Check.due("meet, half of the highest weights", false, () -> Check.even(250, 50).meet());
        Check.due("meet, just above half of the highest", true, () -> Check.even(251, 50).meet());
        Check.due("meet, one weight, lowest need", true, () -> Check.weighted(1, 1).meet());
        Check.due("meet, half, but not to be split so", true, () -> Check.weighted(5, 7, 2, 1).meet());
        Check.due("meet, less than half, not to be split so", true, () -> Check.weighted(4, 7, 2, 1).meet());
        Check.due("meet, the least need at which two do not", false, () -> Check.weighted(3, 7, 2, 1).meet());
        Check.due("meet, the last two nodes", false,
            () -> Check.weighted(9, 0, 0, 0, 0, 0, 0, 0, 0, 9, 9).meet());
    }

    /** 15: "(true, too, if none is)" */
    private static void meetIfNoneIs() {
        Check.due("meet, weights all 0", true, () -> Check.even(1, 0).meet());
        Check.due("meet, a need one beyond all", true, () -> Check.even(11, 1).meet());
        Check.due("meet, one short of the highest need", true, () -> Check.even(500, 49).meet());
    }

    /** 16: "How many SETS are ENOUGH, but not without any one of their NODES." */
    private static void bareFromNoneToMost() {
        int[] due = {10, 45, 120, 210, 252, 210, 120, 45, 10, 1, 0};
        for (int k : Check.range(1, 11)) {
            Check.due("bare for need " + k, due[k - 1], () -> Check.even(k, 1).bare());
        }
        Check.due("bare, weights all 0", 0, () -> Check.even(1, 0).bare());
        Check.due("bare, highest weights and need", 1, () -> Check.even(500, 50).bare());
        Check.due("bare, one short of the highest need", 0, () -> Check.even(500, 49).bare());
        Check.due("bare, one weight just enough", 1, () -> Check.weighted(7, 7).bare());
        Check.due("bare, one weight too heavy", 1, () -> Check.weighted(7, 50).bare());
        Check.due("bare, none with a node without weight", 2, () -> Check.weighted(3, 2, 1, 0, 3).bare());
        Check.due("bare, none with a light node too many", 3, () -> Check.weighted(5, 1, 3, 3, 3).bare());
        Check.due("bare, the light node just needed", 4, () -> Check.weighted(7, 1, 3, 3, 3).bare());
    }

    /** 17: "what 0 WEIGHT, 1 what it has PROMISED" */
    private static void aboutWeightAndPromise() {
        BallotBox x = new BallotBox();
        x.weight(0, 0);
        x.weight(9, 50);
        x.promise(9, 30);
        Check.due("the lowest weight", 0, () -> x.about(0, 0));
        Check.due("the highest weight", 50, () -> x.about(9, 0));
        Check.due("the lowest promise", 0, () -> x.about(0, 1));
        Check.due("the highest promise", 30, () -> x.about(9, 1));
        Check.due("no ballot by a promise", 0, () -> x.about(9, 2));
        Check.due("no highest by a promise", -1, () -> x.about(9, 3));
    }

    /** 17: "2 in how many BALLOTS it voted, 3 the highest of them (-1: none)" */
    private static void aboutVotes() {
        for (int n : Check.NODES) {
            BallotBox x = new BallotBox();
            Check.due("no ballot", 0, () -> x.about(n, 2));
            Check.due("no highest", -1, () -> x.about(n, 3));
            for (int b : Check.BALLOTS) {
                x.vote(n, b, b % 10);
                Check.due("ballots up to " + b, b + 1, () -> x.about(n, 2));
                Check.due("highest at " + b, b, () -> x.about(n, 3));
            }
            int other = (n + 1) % 10;
            Check.due("no ballot of another", 0, () -> x.about(other, 2));
            Check.due("no highest of another", -1, () -> x.about(other, 3));
        }
        BallotBox y = Check.even(1, 0);
        y.vote(4, 0, 0);
        y.vote(4, 17, 0);
        y.promise(4, 30);
        Check.due("ballots with one between, without weight", 2, () -> y.about(4, 2));
        Check.due("highest below a promise", 17, () -> y.about(4, 3));
    }

    /** 17: "IllegalArgumentException: another what." */
    private static void aboutRefused() {
        for (int n : new int[] {0, 9}) {
            for (int what : Check.beyond(0, 3)) {
                Check.refused("about(" + n + ", " + what + ")", Check.ARGUMENT, x -> x.about(n, what));
            }
        }
    }

    /** 18: "0 NEED; 1 WEIGHTS together; 2 VOTES" */
    private static void countNeedWeightsVotes() {
        Check.due("the lowest need", 1, () -> Check.even(1, 1).count(0));
        Check.due("the highest need", 500, () -> Check.even(500, 1).count(0));
        Check.due("weights all 0", 0, () -> Check.even(6, 0).count(1));
        Check.due("weights all 50", 500, () -> Check.even(6, 50).count(1));
        Check.due("the last weight alone", 7, () -> Check.weighted(6, 0, 0, 0, 0, 0, 0, 0, 0, 0, 7).count(1));
        Check.due("no votes", 0, () -> Check.even(6, 1).count(2));
        Check.due("all votes", 310, () -> Check.full().count(2));
        Check.due("votes with and without weight", 9, () -> Check.busy().count(2));
    }

    /** 18: "3 BALLOTS in which a VALUE is CHOSEN; 4 different VALUES that are CHOSEN" */
    private static void countChosen() {
        BallotBox x = Check.full();
        Check.due("all ballots", 31, () -> x.count(3));
        Check.due("all values", 10, () -> x.count(4));
        x.need(11);
        Check.due("no ballot, a need beyond all", 0, () -> x.count(3));
        Check.due("no value, a need beyond all", 0, () -> x.count(4));
        x.need(10);
        Check.due("all ballots, just enough", 31, () -> x.count(3));
        BallotBox y = Check.weighted(1, 1);
        for (int b : Check.BALLOTS) {
            y.vote(0, b, 0);
            Check.due("ballots up to " + b, b + 1, () -> y.count(3));
            Check.due("one value, 0, up to " + b, 1, () -> y.count(4));
        }
        y.weight(0, 0);
        Check.due("no ballot, weights all 0", 0, () -> y.count(3));
        Check.due("no value, weights all 0", 0, () -> y.count(4));
        Check.due("votes, weights all 0", 31, () -> y.count(2));
    }

    /** 18: "Else -1." */
    private static void countElse() {
        for (int what : Check.beyond(0, 4)) {
            Check.due("count(" + what + ")", -1, () -> Check.busy().count(what));
            Check.due("count(" + what + ") of a new object", -1, () -> new BallotBox().count(what));
        }
    }

    private static void changes() {
        weightIsWhatItWas();
        weightRefused();
        needIsWhatItWas();
        needRefused();
        promiseIsWhatItHad();
        promiseRefused();
        votePromises();
        votesAreCounted();
        voteRefusedNotOpen();
        voteRefusedOtherValue();
        voteInFullBox();
        askPromisesAll();
        askHighestBelow();
        askNone();
        askRefusedNotEnough();
        askRefusedPromised();
    }

    private static void questions() {
        chosenOrNone();
        canOrNot();
        safeOrNot();
        safeBesideNoWeight();
        freeTenOneNone();
        enoughOrNot();
        blocksOrNot();
        blocksIfNoneIs();
        setsFromNoneToAll();
        leastOrNone();
        meetOrNot();
        meetIfNoneIs();
        bareFromNoneToMost();
        aboutWeightAndPromise();
        aboutVotes();
        aboutRefused();
        countNeedWeightsVotes();
        countChosen();
        countElse();
    }

    public static void main(String[] args) {
        changes();
        questions();
        Check.finish();
    }
}
