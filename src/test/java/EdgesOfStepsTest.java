import static java.lang.Integer.MAX_VALUE;
import static java.lang.Integer.MIN_VALUE;

/** The edges of promises 9, 11 to 15, 22 and 61 to 63: a test for each sentence, whose first remark says which. */
public final class EdgesOfStepsTest {
    public static void main(String[] args) {
        Edge.run(EdgesOfStepsTest.class);
    }

    private static final int[] BAD_TREES = {-1, 4, MIN_VALUE, MAX_VALUE};

    // ---- Promise 9: gather

    /** Promise 9: "GATHERED into a TREE (0 .. 3)". */
    static void p09_tree() {
        JetTrees x = Edge.of(Edge.t(0, 0, 1));
        Edge.due("gather(0)", x.gather(0), 1);
        Edge.due("gather(3)", x.gather(3), 1);
        Edge.due("is(5)", x.is(5), 9);
        for (int bad : BAD_TREES) {
            Edge.due("gather(" + bad + ")", x.gather(bad), -1);
        }
        Edge.due("is(5)", x.is(5), 9);
    }

    /** Promise 9: "NONE for others, and without TRACKS.": the TREE that was there stays. */
    static void p09_withoutTracks() {
        Edge.due("gather(0)", new JetTrees().gather(0), -1);
        JetTrees x = Edge.of(Edge.t(0, 0, 1));
        x.gather(0);
        x.drop(0);
        int steps = x.steps();
        Edge.due("gather(0)", x.gather(0), -1);
        Edge.due("tree(0, 3)", x.tree(0, 3), 1);
        Edge.due("steps()", x.steps(), steps);
    }

    /** Promise 9: "and without TRACKS.", Terms: "TRACKS are those of the one IN HAND": an EVENT without them. */
    static void p09_eventWithoutTracks() {
        JetTrees x = Edge.five();
        x.hand(2);
        Edge.due("gather(1)", x.gather(1), -1);
        x.hand(0);
        Edge.due("gather(1)", x.gather(1), 2);
    }

    /** Promise 9: "GATHERED into a TREE (0 .. 3): how many JETS.": one TRACK is one JET. */
    static void p09_oneTrack() {
        JetTrees x = Edge.of(Edge.t(0, 0, 1));
        Edge.due("gather(0)", x.gather(0), 1);
        Edge.due("KNOTS", x.tree(0, 0), 1);
        Edge.due("STEPS", x.tree(0, 1), 1);
        Edge.due("the beam", x.step(0, 0, 1), -1);
    }

    /** Promise 9: "how many JETS.": of 40 TRACKS one, and 40. */
    static void p09_of40() {
        JetTrees x = new JetTrees();
        for (int i = 0; i < 40; i++) {
            x.track(i, 0, 1);
        }
        x.set(1, 0);
        x.set(0, 200);
        Edge.due("all in one", x.gather(0), 1);
        Edge.due("KNOTS", x.tree(0, 0), 79);
        x.set(0, 1);
        Edge.due("each by itself", x.gather(1), 40);
        Edge.due("KNOTS", x.tree(1, 0), 40);
    }

    /** Promise 9, Terms: "of like ones (fractions, exactly) a one alone first": SQUARE just RADIUS times itself. */
    static void p09_radiusJustTheWay() {
        int[][] two = {Edge.t(3, 4, 1), Edge.t(0, 0, 1)};
        Edge.due("RADIUS 4", Edge.treeOf(0, 4, 0, two).tree(0, 2), 2);
        Edge.due("RADIUS 5", Edge.treeOf(0, 5, 0, two).tree(0, 2), 2);
        Edge.due("RADIUS 6", Edge.treeOf(0, 6, 0, two).tree(0, 2), 1);
    }

    /** Promise 9: "GATHERED into a TREE (0 .. 3)": another TREE in the place of the one that was there. */
    static void p09_inThePlace() {
        JetTrees x = Edge.five();
        x.set(0, 200);
        Edge.due("gather(0)", x.gather(0), 1);
        Edge.due("RADIUS", x.tree(0, 4), 200);
        Edge.due("is(5)", x.is(5), 1);
    }

    /** Promise 9, Terms: "as long as there are any, a STEP": there are as many STEPS as TRACKS. */
    static void p09_asManySteps() {
        for (int power = -1; power <= 1; power++) {
            JetTrees x = Edge.many(40);
            x.set(1, power);
            int jets = x.gather(0);
            Edge.due("STEPS", x.tree(0, 1), 40);
            Edge.due("KNOTS", x.tree(0, 0), 80 - jets);
            Edge.due("JETS", x.tree(0, 2), jets);
        }
    }

    /** Promise 9: "NONE for others": all is as it was. */
    static void p09_refusedLeavesAll() {
        Edge.leavesAll(x -> {
            x.gather(-1);
            x.gather(4);
        });
        Edge.leavesAll(JetTrees::new, x -> x.gather(0));
    }

    // ---- Promise 11: apart

    /** Promise 11: "NONE for others.": a TREE beside 0 .. 3, or one that there isn't. */
    static void p11_tree() {
        JetTrees x = Edge.five();
        for (int bad : BAD_TREES) {
            Edge.due("apart(" + bad + ", 0, 0, 5, 1)", x.apart(bad, 0, 0, 5, 1), -1);
        }
        Edge.due("there is no TREE 3", x.apart(3, 0, 0, 5, 1), -1);
        x.gather(3);
        Edge.due("there is TREE 3", x.apart(3, 0, 0, 5, 1), 1);
    }

    /** Promise 11: "NONE for others.": of KNOTS the first and the last are taken. */
    static void p11_knot() {
        JetTrees x = Edge.five();
        Edge.due("KNOT 0", x.apart(0, 0, 0, 5, 1), 1);
        Edge.due("KNOT 7", x.apart(0, 7, 0, 6, 1), 1);
        for (int bad : new int[] {-1, 8, MIN_VALUE, MAX_VALUE}) {
            Edge.due("KNOT " + bad, x.apart(0, bad, 0, 5, 1), -1);
        }
    }

    /** Promise 11, Terms: "POWER -1, 0, 1". */
    static void p11_power() {
        JetTrees x = Edge.five();
        for (int power = -1; power <= 1; power++) {
            Edge.due("apart by POWER " + power, x.apart(0, 7, power, 200, 1), 1);
            Edge.due("its POWER", x.tree(1, 5), power);
        }
        for (int bad : new int[] {-2, 2, MIN_VALUE, MAX_VALUE}) {
            Edge.due("apart by POWER " + bad, x.apart(0, 7, bad, 200, 1), -1);
        }
    }

    /** Promise 11, Terms: "RADIUS 1 .. 200": r. */
    static void p11_r() {
        JetTrees x = Edge.five();
        Edge.due("r 1", x.apart(0, 6, 0, 1, 1), 3);
        Edge.due("its RADIUS", x.tree(1, 4), 1);
        Edge.due("r 200", x.apart(0, 6, 0, 200, 1), 1);
        Edge.due("its RADIUS", x.tree(1, 4), 200);
        for (int bad : new int[] {0, 201, -1, MIN_VALUE, MAX_VALUE}) {
            Edge.due("r " + bad, x.apart(0, 6, 0, bad, 1), -1);
        }
    }

    /** Promise 11: "GATHERED APART into a TREE", Terms: "TREES 0 .. 3". */
    static void p11_into() {
        JetTrees x = Edge.five();
        Edge.due("into 3", x.apart(0, 6, 0, 200, 3), 1);
        for (int bad : BAD_TREES) {
            Edge.due("into " + bad, x.apart(0, 6, 0, 200, bad), -1);
        }
        Edge.due("into 0, where it is from", x.apart(0, 6, 0, 200, 0), 1);
        Edge.due("TRACKS of TREE 0", x.tree(0, 3), 3);
        Edge.due("is(5)", x.is(5), 9);
    }

    /** Promise 11, Terms: "its TRACKS 0, 1, .. being the KNOT's LEAVES by numbers": of a TRACK just itself. */
    static void p11_ofATrack() {
        JetTrees x = Edge.five();
        Edge.due("apart(0, 4, ..)", x.apart(0, 4, 0, 1, 2), 1);
        Edge.due("TRACKS", x.tree(2, 3), 1);
        Edge.due("WEIGHT", x.knot(2, 0, 2), 40);
        Edge.due("ORIGIN", x.origin(2, 0), 4);
    }

    /** Promise 11, Terms: "GATHERED APART, a KNOT of a TREE by POWER and r": of all 40 TRACKS. */
    static void p11_of40() {
        JetTrees x = Edge.many(40);
        x.set(1, 0);
        x.set(0, 200);
        Edge.due("one JET", x.gather(0), 1);
        Edge.due("each by itself", x.apart(0, 78, 0, 9, 1), 40);
        Edge.due("all in one again", x.apart(0, 78, 0, 200, 1), 1);
        Edge.due("ORIGIN of the last", x.origin(1, 39), 39);
    }

    /** Promise 11, Terms: "SUMS of the TREE it is from": not those that are set now. */
    static void p11_sumsOfTheTree() {
        JetTrees x = Edge.five();
        x.set(2, 1);
        x.apart(0, 7, 0, 200, 1);
        Edge.due("SUMS", x.tree(1, 6), 0);
        Edge.due("ACROSS", x.knot(1, 2, 0), 102);
        x.gather(2);
        x.set(2, 0);
        x.apart(2, 7, 0, 200, 3);
        Edge.due("SUMS", x.tree(3, 6), 1);
        Edge.due("ACROSS", x.knot(3, 2, 0), 105);
    }

    /** Promise 11: "GATHERED APART into a TREE", without TRACKS now: those of the TREE are taken. */
    static void p11_withoutTracksNow() {
        JetTrees x = Edge.five();
        x.hand(1);
        Edge.due("apart(0, 6, 0, 200, 1)", x.apart(0, 6, 0, 200, 1), 1);
    }

    /** Promise 11: "NONE for others.": all is as it was. */
    static void p11_refusedLeavesAll() {
        Edge.leavesAll(x -> {
            x.apart(2, 0, 0, 5, 1);
            x.apart(0, 8, 0, 5, 1);
            x.apart(0, 6, 2, 5, 1);
            x.apart(0, 6, 0, 0, 1);
            x.apart(0, 6, 0, 201, 1);
            x.apart(0, 6, 0, 5, 4);
        });
    }

    // ---- Promise 12: hand

    /** Promise 12, Terms: "There are EVENTS 0 .. 2". */
    static void p12_event() {
        JetTrees x = new JetTrees();
        Edge.due("hand(2)", x.hand(2), 0);
        Edge.due("is(7)", x.is(7), 2);
        Edge.due("hand(0)", x.hand(0), 0);
        for (int bad : new int[] {-1, 3, MIN_VALUE, MAX_VALUE}) {
            Edge.due("hand(" + bad + ")", x.hand(bad), -1);
        }
        Edge.due("is(7)", x.is(7), 0);
    }

    /** Promise 12: "NONE for others (IN HAND already)." */
    static void p12_inHandAlready() {
        JetTrees x = Edge.five();
        Edge.due("hand(0)", x.hand(0), -1);
        x.hand(1);
        Edge.due("hand(1)", x.hand(1), -1);
        Edge.due("hand(0)", x.hand(0), 5);
    }

    /** Promise 12: "TAKEN IN HAND: how many TRACKS it has.": none, and 40. */
    static void p12_howMany() {
        JetTrees x = Edge.many(40);
        Edge.due("none", x.hand(1), 0);
        Edge.due("40", x.hand(0), 40);
    }

    /** Promise 12, Terms: "TAKEN IN HAND: an EVENT that isn't IN HAND; TREES and what is KEPT stay." */
    static void p12_treesAndKeptStay() {
        JetTrees x = Edge.five();
        x.keep(3, 0, 2);
        x.hand(2);
        Edge.due("is(5)", x.is(5), 1);
        Edge.due("tree(0, 3)", x.tree(0, 3), 5);
        Edge.due("kept(3, -1)", x.kept(3, -1), 2);
    }

    /** Promise 12: "NONE for others (IN HAND already).": all is as it was. */
    static void p12_refusedLeavesAll() {
        Edge.leavesAll(x -> {
            x.hand(0);
            x.hand(3);
            x.hand(-1);
        });
    }

    // ---- Promise 13: mix

    /** Promise 13, Terms: "There are EVENTS 0 .. 2". */
    static void p13_event() {
        JetTrees x = Edge.of(Edge.t(1, 1, 1));
        Edge.due("mix(2, 0): without TRACKS", x.mix(2, 0), 1);
        for (int bad : new int[] {-1, 3, MIN_VALUE, MAX_VALUE}) {
            Edge.due("mix(" + bad + ", 0)", x.mix(bad, 0), -1);
        }
        x.hand(2);
        Edge.due("mix(0, 0)", x.mix(0, 0), 1);
    }

    /** Promise 13, Terms: "MIXED, another EVENT": the one IN HAND is none. */
    static void p13_notItself() {
        JetTrees x = Edge.of(Edge.t(1, 1, 1));
        Edge.due("mix(0, 5)", x.mix(0, 5), -1);
        Edge.due("is(3)", x.is(3), 1);
    }

    private static JetTrees besides(int[]... tracks) {
        JetTrees x = Edge.of(tracks);
        x.hand(1);
        return x;
    }

    /** Promise 13, Terms: "turned by t (0 .. 359)". */
    static void p13_turn() {
        JetTrees x = besides(Edge.t(1, 100, 1));
        Edge.due("mix(0, 0)", x.mix(0, 0), 1);
        Edge.due("of(0, 1)", x.of(0, 1), 100);
        Edge.due("mix(0, 359)", x.mix(0, 359), 2);
        Edge.due("of(1, 1)", x.of(1, 1), 99);
        for (int bad : new int[] {-1, 360, MIN_VALUE, MAX_VALUE}) {
            Edge.due("mix(0, " + bad + ")", x.mix(0, bad), -1);
        }
        Edge.due("is(3)", x.is(3), 2);
    }

    /** Promise 13, Terms: "ROUND t more, mod 360": just to 359, just to 0, and farthest past it. */
    static void p13_goesRound() {
        JetTrees x = besides(Edge.t(1, 350, 1), Edge.t(2, 359, 1), Edge.t(3, 0, 1));
        x.mix(0, 9);
        Edge.due("350 and 9", x.of(0, 1), 359);
        Edge.due("359 and 9", x.of(1, 1), 8);
        Edge.due("0 and 9", x.of(2, 1), 9);
        x.mix(0, 10);
        Edge.due("350 and 10", x.of(3, 1), 0);
        x.mix(0, 359);
        Edge.due("359 and 359", x.of(7, 1), 358);
        Edge.due("0 and 359", x.of(8, 1), 359);
    }

    private static JetTrees both(int first, int second) {
        JetTrees x = Edge.many(first);
        x.hand(1);
        for (int i = 0; i < second; i++) {
            x.track(5, i, 7);
        }
        return x;
    }

    /** Promise 13, Terms: "(40 at most in all, else nothing is done)": just 40. */
    static void p13_just40() {
        Edge.due("20 and 20", both(20, 20).mix(0, 0), 40);
        Edge.due("39 and 1", both(39, 1).mix(0, 0), 40);
        Edge.due("40 and none", both(40, 0).mix(0, 0), 40);
        JetTrees x = both(40, 0);
        x.hand(0);
        Edge.due("none and 40", x.mix(1, 0), 40);
    }

    /** Promise 13, Terms: "(40 at most in all, else nothing is done)": 41. */
    static void p13_moreThan40() {
        Edge.due("20 and 21", both(20, 21).mix(0, 0), -1);
        Edge.due("40 and 1", both(40, 1).mix(0, 0), -1);
        Edge.due("40 and 40", both(40, 40).mix(0, 0), -1);
        Edge.leavesAll(() -> both(20, 21), x -> x.mix(0, 0));
    }

    /** Promise 13: "MIXED: how many TRACKS there are.": an EVENT without TRACKS changes nothing, and is a STEP. */
    static void p13_eventWithoutTracks() {
        JetTrees x = new JetTrees();
        Edge.due("mix(1, 0)", x.mix(1, 0), 0);
        Edge.due("steps()", x.steps(), 1);
        Edge.due("undo()", x.undo(), 0);
    }

    /** Promise 13, Terms: "its TRACKS, by numbers, come behind those of the EVENT IN HAND": that one has its own still. */
    static void p13_behind() {
        JetTrees x = besides(Edge.t(1, 1, 11), Edge.t(2, 2, 22));
        x.track(9, 9, 99);
        Edge.due("mix(0, 0)", x.mix(0, 0), 3);
        Edge.due("of(0, 2)", x.of(0, 2), 99);
        Edge.due("of(1, 2)", x.of(1, 2), 11);
        Edge.due("of(2, 2)", x.of(2, 2), 22);
        Edge.due("hand(0)", x.hand(0), 2);
        Edge.due("of(0, 2)", x.of(0, 2), 11);
    }

    /** Promise 13, Terms: "its TRACKS, by numbers, come behind": their numbers are those behind, for what is asked too. */
    static void p13_numbersOfTheirOwn() {
        JetTrees x = besides(Edge.t(1, 1, 11), Edge.t(2, 2, 22));
        x.track(199, 180, 99);
        x.mix(0, 0);
        Edge.due("nearest(1)", x.nearest(1), 2);
        Edge.due("nearest(2)", x.nearest(2), 1);
        x.gather(0);
        Edge.due("1 and 2 are JOINED", x.together(0, 1, 2), 0);
        Edge.due("JETS", x.tree(0, 2), 2);
    }

    /** Promise 13: "NONE for others.": all is as it was. */
    static void p13_refusedLeavesAll() {
        Edge.leavesAll(x -> {
            x.mix(0, 0);
            x.mix(3, 0);
            x.mix(-1, 0);
            x.mix(1, 360);
            x.mix(1, -1);
        });
    }

    // ---- Promise 14: free

    /** Promise 14: "A TREE is let go: true. False for others (there is none).": the first and the last. */
    static void p14_tree() {
        JetTrees x = Edge.of(Edge.t(0, 0, 1));
        x.gather(0);
        x.gather(3);
        for (int bad : BAD_TREES) {
            Edge.due("free(" + bad + ")", x.free(bad), false);
        }
        Edge.due("free(3)", x.free(3), true);
        Edge.due("is(5)", x.is(5), 1);
        Edge.due("free(0)", x.free(0), true);
        Edge.due("is(5)", x.is(5), 0);
    }

    /** Promise 14: "False for others (there is none).": never GATHERED, let go already, taken back. */
    static void p14_thereIsNone() {
        JetTrees x = Edge.five();
        Edge.due("free(1)", x.free(1), false);
        Edge.due("free(0)", x.free(0), true);
        Edge.due("free(0) again", x.free(0), false);
        x.undo();
        x.undo();
        Edge.due("free(0) where gather was taken back", x.free(0), false);
    }

    /** Promise 14: "A TREE is let go": what is asked of it then is answered as where there is none. */
    static void p14_askedThen() {
        JetTrees x = Edge.five();
        x.free(0);
        Edge.due("tree(0, 0)", x.tree(0, 0), -2);
        Edge.due("knot(0, 0, 0)", x.knot(0, 0, 0), -1000);
        Edge.due("leaves(0, 0)", x.leaves(0, 0), 0);
        Edge.due("jet(0, 0)", x.jet(0, 0), -1);
        Edge.due("step(0, 0, 0)", x.step(0, 0, 0), -2);
        Edge.due("left(0, 0, -1)", x.left(0, 0, -1), -1);
    }

    /** Promise 14: "False for others (there is none).": all is as it was. */
    static void p14_refusedLeavesAll() {
        Edge.leavesAll(x -> {
            x.free(2);
            x.free(3);
            x.free(4);
            x.free(-1);
        });
    }

    // ---- Promise 15: undo

    /** Promise 15: "NONE: there is none.": of a new object, and once all are taken back. */
    static void p15_thereIsNone() {
        JetTrees x = new JetTrees();
        Edge.due("undo()", x.undo(), -1);
        x.track(1, 1, 1);
        Edge.due("undo()", x.undo(), 0);
        Edge.due("undo()", x.undo(), -1);
        Edge.same("a new object", Edge.lookDeep(x), Edge.lookDeep(new JetTrees()));
    }

    /** Promise 15: "NONE: there is none.": all is as it was. */
    static void p15_refusedLeavesAll() {
        Edge.leavesAll(() -> {
            JetTrees x = Edge.five();
            x.image();
            for (int i = 0; i < 9; i++) {
                x.undo();
            }
            x.tell(99);
            return x;
        }, JetTrees::undo);
    }

    /** Promise 15: "how many can be yet", Terms: "the latest 20, the latest first": of just 20 all are taken back. */
    static void p15_just20() {
        JetTrees x = Edge.many(20);
        for (int left = 19; left >= 0; left--) {
            Edge.due("undo()", x.undo(), left);
            Edge.due("is(3)", x.is(3), left);
        }
        Edge.due("undo()", x.undo(), -1);
    }

    /** Promise 15, Terms: "the latest 20, the latest first": the 21st back stays. */
    static void p15_the21st() {
        JetTrees x = Edge.many(21);
        for (int left = 19; left >= 0; left--) {
            Edge.due("undo()", x.undo(), left);
        }
        Edge.due("undo()", x.undo(), -1);
        Edge.due("the first TRACK stays", x.is(3), 1);
    }

    /** Promise 15, Terms: "the latest 20": of 40, with new ones behind such as were taken back. */
    static void p15_newOnesBehind() {
        JetTrees x = Edge.many(40);
        for (int i = 0; i < 10; i++) {
            x.undo();
        }
        Edge.due("steps()", x.steps(), 10);
        for (int i = 0; i < 10; i++) {
            Edge.due("track again", x.track(7, i, 7), 30 + i);
        }
        Edge.due("steps()", x.steps(), 20);
        for (int left = 19; left >= 0; left--) {
            Edge.due("undo()", x.undo(), left);
        }
        Edge.due("is(3)", x.is(3), 20);
        Edge.due("undo()", x.undo(), -1);
    }

    /** Promise 15, Terms: "the latest first". */
    static void p15_theLatestFirst() {
        JetTrees x = new JetTrees();
        x.track(1, 1, 1);
        x.set(0, 5);
        x.weigh(0, 9);
        x.undo();
        Edge.due("WEIGHT first", x.of(0, 2), 1);
        Edge.due("RADIUS not yet", x.is(0), 5);
        x.undo();
        Edge.due("then RADIUS", x.is(0), 40);
        Edge.due("TRACK not yet", x.is(3), 1);
    }

    /** Promise 15, Terms: "STEPS that are taken back: CUTS KEPT". */
    static void p15_cutsKept() {
        Edge.takenBack(x -> x.keep(1, 0, 40));
    }

    /** Promise 15, Terms: "CUTS KEPT" and "(in the place of what was kept so)": that one is there again. */
    static void p15_cutsKeptInThePlace() {
        Edge.takenBack(x -> x.keep(0, 0, 5));
    }

    /** Promise 15, Terms: "TRACKS told". */
    static void p15_tracksTold() {
        Edge.takenBack(x -> x.track(200, 359, 9999));
    }

    /** Promise 15, Terms: "TRACKS told, moved". */
    static void p15_tracksMoved() {
        Edge.takenBack(x -> x.move(0, -200, 0));
    }

    /** Promise 15, Terms: "TRACKS told, moved, weighed". */
    static void p15_tracksWeighed() {
        Edge.takenBack(x -> x.weigh(5, 9999));
    }

    /** Promise 15, Terms: "gone (those behind come up by one number)": the first, so that all have other numbers. */
    static void p15_tracksGone() {
        Edge.takenBack(x -> x.drop(0));
    }

    /** Promise 15, Terms: "gone (those behind come up by one number)": the last, behind which there is none. */
    static void p15_theLastGone() {
        Edge.takenBack(x -> x.drop(5));
    }

    /** Promise 15, Terms: "DRAWN": all of them, and X, in one STEP. */
    static void p15_drawn() {
        Edge.takenBack(x -> x.drawn(0, 0, 60, 20));
    }

    /** Promise 15, Terms: "DRAWN, RADIUS". */
    static void p15_radius() {
        Edge.takenBack(x -> x.set(0, 200));
    }

    /** Promise 15, Terms: "RADIUS, POWER". */
    static void p15_power() {
        Edge.takenBack(x -> x.set(1, -1));
    }

    /** Promise 15, Terms: "RADIUS, POWER, SUMS". */
    static void p15_sums() {
        Edge.takenBack(x -> x.set(2, 0));
    }

    /** Promise 15, Terms: "GATHERED (APART)": where there was no TREE, and in the place of one. */
    static void p15_gathered() {
        Edge.takenBack(x -> x.gather(3));
        Edge.takenBack(x -> x.gather(0));
    }

    /** Promise 15, Terms: "GATHERED (APART)": APART, also into the TREE it is from. */
    static void p15_gatheredApart() {
        Edge.takenBack(x -> x.apart(0, 7, 1, 200, 2));
        Edge.takenBack(x -> x.apart(0, 7, 1, 200, 0));
    }

    /** Promise 15, Terms: "TREES let go". */
    static void p15_treesLetGo() {
        Edge.takenBack(x -> x.free(1));
    }

    /** Promise 15, Terms: "TAKEN IN HAND". */
    static void p15_takenInHand() {
        Edge.takenBack(x -> x.hand(1));
    }

    /** Promise 15, Terms: "TAKEN IN HAND, MIXED". */
    static void p15_mixed() {
        Edge.takenBack(x -> x.mix(1, 359));
    }

    /** Promise 15, Terms: "(all is as ahead of it)": X too, whatever was told behind it. */
    static void p15_allAsAheadOfIt() {
        JetTrees x = new JetTrees();
        x.tell(5);
        x.drawn(0, 0, 0, 3);
        x.tell(6);
        Edge.due("undo()", x.undo(), 0);
        Edge.due("is(4)", x.is(4), 5);
        Edge.due("is(3)", x.is(3), 0);
    }

    // ---- Promise 22: origin

    /** Promise 22: "NONE: it was not GATHERED APART". */
    static void p22_notApart() {
        JetTrees x = Edge.five();
        for (int t = 0; t < 5; t++) {
            Edge.due("origin(0, " + t + ")", x.origin(0, t), -1);
        }
        x.apart(0, 6, 0, 5, 1);
        x.gather(1);
        Edge.due("GATHERED in its place", x.origin(1, 0), -1);
    }

    /** Promise 22: "and for others.": TRACKS beside the first and the last, KNOTS that were JOINED. */
    static void p22_track() {
        JetTrees x = Edge.five();
        x.apart(0, 6, 0, 200, 3);
        Edge.due("origin(3, 0)", x.origin(3, 0), 0);
        Edge.due("origin(3, 2)", x.origin(3, 2), 2);
        for (int bad : new int[] {-1, 3, 4, 5, MIN_VALUE, MAX_VALUE}) {
            Edge.due("origin(3, " + bad + ")", x.origin(3, bad), -1);
        }
    }

    /** Promise 22: "and for others.": TREES beside 0 .. 3, or such as there aren't. */
    static void p22_tree() {
        JetTrees x = Edge.five();
        x.apart(0, 6, 0, 200, 3);
        for (int bad : BAD_TREES) {
            Edge.due("origin(" + bad + ", 0)", x.origin(bad, 0), -1);
        }
        Edge.due("there is no TREE 2", x.origin(2, 0), -1);
    }

    /** Promise 22, Terms: "each of its TRACKS has an ORIGIN: the number it had there": there, not farther back. */
    static void p22_theNumberItHadThere() {
        JetTrees x = Edge.five();
        x.apart(0, 7, 0, 200, 1);
        Edge.due("of TREE 0", x.origin(1, 1), 4);
        x.apart(1, 1, 0, 200, 2);
        Edge.due("of TREE 1", x.origin(2, 0), 1);
    }

    // ---- Promise 61: image

    /** Promise 61: "THE IMAGE is as all is now: TRACKS.": how many of the EVENT IN HAND, none, and 40. */
    static void p61_howMany() {
        JetTrees x = new JetTrees();
        Edge.due("none", x.image(), 0);
        JetTrees y = Edge.many(40);
        Edge.due("40", y.image(), 40);
        y.hand(1);
        Edge.due("of the EVENT IN HAND", y.image(), 0);
    }

    /** Promise 61: "THE IMAGE is as all is now": not one as it was ahead. */
    static void p61_inThePlace() {
        JetTrees x = Edge.of(Edge.t(1, 1, 1));
        x.image();
        x.track(2, 2, 2);
        x.image();
        x.track(3, 3, 3);
        Edge.due("back()", x.back(), 2);
    }

    /** Promise 61, Terms: "STEPS that are taken back": an IMAGE is none of these, and undo() leaves it. */
    static void p61_noStep() {
        JetTrees x = Edge.of(Edge.t(1, 1, 1));
        Edge.due("image()", x.image(), 1);
        Edge.due("steps()", x.steps(), 1);
        Edge.due("undo()", x.undo(), 0);
        Edge.due("back()", x.back(), 1);
    }

    // ---- Promise 62: back

    /** Promise 62: "BACK to THE IMAGE (it stays): TRACKS.": as often as one likes. */
    static void p62_itStays() {
        JetTrees x = Edge.many(3);
        x.image();
        for (int i = 0; i < 3; i++) {
            x.drop(0);
            x.set(0, 9);
            Edge.due("back()", x.back(), 3);
            Edge.due("of(0, 1)", x.of(0, 1), 0);
            Edge.due("is(0)", x.is(0), 40);
        }
        Edge.due("back() at once again", x.back(), 3);
    }

    /** Promise 62: "BACK to THE IMAGE (it stays): TRACKS.": none, and 40. */
    static void p62_howMany() {
        JetTrees x = Edge.many(40);
        Edge.due("to the first IMAGE", x.back(), 0);
        JetTrees y = Edge.many(40);
        y.image();
        y.hand(1);
        Edge.due("to 40", y.back(), 40);
        Edge.due("is(7)", y.is(7), 0);
    }

    /** Promise 62, Terms: "BACK: all is so again.": each thing that there is. */
    static void p62_allIsSoAgain() {
        JetTrees x = Edge.busy();
        x.image();
        x.drop(0);
        x.set(0, 200);
        x.set(1, -1);
        x.set(2, 0);
        x.tell(0);
        x.gather(0);
        x.gather(3);
        x.free(1);
        x.keep(0, 0, 40);
        x.keep(1, 0, 40);
        x.hand(1);
        x.weigh(0, 1);
        Edge.due("back()", x.back(), 6);
        JetTrees twin = Edge.busy();
        twin.image();
        Edge.same("all", Edge.lookDeep(x), Edge.lookDeep(twin));
    }

    /** Promise 62, Terms: "BACK: all is so again.": STEPS that could be taken back then can be again, no others. */
    static void p62_stepsToo() {
        JetTrees x = Edge.many(5);
        x.image();
        x.drop(0);
        x.drop(0);
        x.back();
        Edge.due("steps()", x.steps(), 5);
        Edge.due("undo()", x.undo(), 4);
        Edge.due("is(3)", x.is(3), 4);
        x.back();
        Edge.due("steps()", x.steps(), 5);
        JetTrees y = Edge.many(25);
        y.back();
        Edge.due("those of the first IMAGE: none", y.steps(), 0);
        Edge.due("undo()", y.undo(), -1);
    }

    // ---- Promise 63: steps

    /** Promise 63: "STEPS that can be taken back.", Terms: "the latest 20": none, 19, 20 and no more. */
    static void p63_upTo20() {
        JetTrees x = new JetTrees();
        for (int i = 0; i < 40; i++) {
            Edge.due("steps()", x.steps(), Math.min(i, 20));
            x.track(i, i, 1);
        }
        Edge.due("steps()", x.steps(), 20);
    }

    /** Promise 63: "STEPS that can be taken back.": one less by each undo(), none below none. */
    static void p63_downToNone() {
        JetTrees x = Edge.many(2);
        x.undo();
        Edge.due("steps()", x.steps(), 1);
        x.undo();
        Edge.due("steps()", x.steps(), 0);
        x.undo();
        Edge.due("steps()", x.steps(), 0);
    }

    /** Promise 63: "STEPS that can be taken back.": what is asked is none, whatever it is. */
    static void p63_askingIsNone() {
        JetTrees x = Edge.busy();
        int steps = x.steps();
        x.fresh(0);
        x.trim(0, 6, 3, 500);
        x.prune(0, 6, 500, 3);
        x.groom(0, 6, 500, 0);
        x.patch(5, 500, -1);
        x.still(5, -1);
        x.clean(0, 6, 5);
        x.image();
        x.tell(3);
        Edge.due("steps()", x.steps(), steps);
    }
}
