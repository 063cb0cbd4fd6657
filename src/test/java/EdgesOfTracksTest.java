import static java.lang.Integer.MAX_VALUE;
import static java.lang.Integer.MIN_VALUE;

/** The edges of promises 1 to 8 and 16 to 19: a test for each sentence, whose first remark says which. */
public final class EdgesOfTracksTest {
    public static void main(String[] args) {
        Edge.run(EdgesOfTracksTest.class);
    }

    private static final int[] BAD_ACROSS = {-201, 201, MIN_VALUE, MAX_VALUE};
    private static final int[] BAD_ROUND = {-1, 360, MIN_VALUE, MAX_VALUE};
    private static final int[] BAD_WEIGHT = {0, 10000, -1, MIN_VALUE, MAX_VALUE};

    private static JetTrees full() {
        return Edge.many(40);
    }

    // ---- Promise 1: A new object

    /** Promise 1, the constants: "`NONE = -1`: None." */
    static void p01_noneIsMinusOne() {
        Edge.due("NONE", JetTrees.NONE, -1);
    }

    /** Promise 1: "No TRACKS": in none of the three EVENTS. */
    static void p01_noTracks() {
        JetTrees x = new JetTrees();
        Edge.due("is(3)", x.is(3), 0);
        Edge.due("of(0, 0)", x.of(0, 0), -1000);
        Edge.due("hand(1)", x.hand(1), 0);
        Edge.due("hand(2)", x.hand(2), 0);
        Edge.due("hand(0)", x.hand(0), 0);
    }

    /** Promise 1: "THE IMAGE is this." All is as at first again, whatever was done. */
    static void p01_theFirstImage() {
        JetTrees x = Edge.of(Edge.t(1, 2, 3), Edge.t(4, 5, 6));
        x.set(0, 7);
        x.set(1, 1);
        x.set(2, 1);
        x.tell(8);
        x.gather(2);
        x.keep(3, 2, 40);
        x.hand(1);
        x.track(1, 1, 1);
        Edge.due("back()", x.back(), 0);
        Edge.same("the first IMAGE", Edge.lookDeep(x), Edge.lookDeep(new JetTrees()));
    }

    /** Promise 1, Terms: "RADIUS 1 .. 200 (at first 40)". */
    static void p01_radiusAtFirst() {
        Edge.due("is(0)", new JetTrees().is(0), 40);
    }

    /** Promise 1, Terms: "POWER -1, 0, 1 (at first -1)". */
    static void p01_powerAtFirst() {
        Edge.due("is(1)", new JetTrees().is(1), -1);
    }

    /** Promise 1, Terms: "SUMS 0, 1 (at first 0)". */
    static void p01_sumsAtFirst() {
        Edge.due("is(2)", new JetTrees().is(2), 0);
    }

    /** Promise 1, Terms: "X: at first 701." */
    static void p01_xAtFirst() {
        Edge.due("is(4)", new JetTrees().is(4), 701);
    }

    /** Promise 1, Terms: "TREES 0 .. 3 (at first none)." */
    static void p01_treesAtFirst() {
        JetTrees x = new JetTrees();
        Edge.due("is(5)", x.is(5), 0);
        for (int tree = 0; tree < 4; tree++) {
            Edge.due("tree(" + tree + ", 0)", x.tree(tree, 0), -2);
        }
    }

    /** Promise 1, Terms: "There are EVENTS 0 .. 2, one IN HAND (at first 0)". */
    static void p01_inHandAtFirst() {
        Edge.due("is(7)", new JetTrees().is(7), 0);
    }

    /** Promise 1: "No TRACKS; THE IMAGE is this." Nothing is KEPT, and no STEP can be taken back. */
    static void p01_nothingKeptNoSteps() {
        JetTrees x = new JetTrees();
        for (int as = 0; as < 4; as++) {
            Edge.due("kept(" + as + ", -1)", x.kept(as, -1), -1);
        }
        Edge.due("steps()", x.steps(), 0);
        Edge.due("undo()", x.undo(), -1);
    }

    /** Promise 1: "No TRACKS": of a new object, whatever another one has. */
    static void p01_anotherObjectIsAnother() {
        JetTrees x = Edge.busy();
        Edge.same("a new object", Edge.look(new JetTrees()), "40 -1 0 0 701 0 0 0 | -2 -2 -2 | -2 -2 -2 | -2 -2 -2 "
            + "| -2 -2 -2 ; ; ; ; 0 steps");
        Edge.due("the other's TRACKS", x.is(3), 6);
    }

    /** Promise 1, What it is: "An object is used for at most 512 calls after it has been made": the 512th is answered. */
    static void p01_the512thCall() {
        JetTrees x = new JetTrees();
        for (int call = 1; call <= 510; call++) {
            Edge.due("move or track", call <= 40 ? x.track(0, call, 5) >= 0 : x.move(call % 40, 3, call % 360), true);
        }
        Edge.due("call 511: gather(0)", x.gather(0) > 0, true);
        Edge.due("call 512: tree(0, 3)", x.tree(0, 3), 40);
    }

    // ---- Promise 2: track

    /** Promise 2: "A TRACK: its number.", Terms: "TRACKS 0 .. 39 (told one by one)". */
    static void p02_numbersFrom0To39() {
        JetTrees x = new JetTrees();
        for (int i = 0; i < 40; i++) {
            Edge.due("track " + i, x.track(0, i, 1), i);
        }
        Edge.due("is(3)", x.is(3), 40);
    }

    /** Promise 2: "NONE for others, or if there are 40." The 41st isn't told, and all is as it was. */
    static void p02_noneIfThereAre40() {
        Edge.due("the 41st", full().track(0, 0, 1), -1);
        Edge.leavesAll(EdgesOfTracksTest::full, x -> x.track(0, 0, 1));
    }

    /** Promise 2: "or if there are 40." Once one is gone, there is room for number 39 again, and for one alone. */
    static void p02_roomOnceOneIsGone() {
        JetTrees x = full();
        x.drop(0);
        Edge.due("room again", x.track(0, 0, 1), 39);
        Edge.due("and no more", x.track(0, 0, 1), -1);
    }

    /** Promise 2: "or if there are 40.", Terms: "TRACKS are those of the one IN HAND": another EVENT has room of its own. */
    static void p02_eachEventHas40() {
        JetTrees x = full();
        x.hand(1);
        Edge.due("the first of EVENT 1", x.track(0, 0, 1), 0);
        x.hand(0);
        Edge.due("EVENT 0 is full as it was", x.track(0, 0, 1), -1);
    }

    /** Promise 2, Terms: "ACROSS -200 .. 200". */
    static void p02_across() {
        JetTrees x = new JetTrees();
        Edge.due("-200", x.track(-200, 5, 5), 0);
        Edge.due("200", x.track(200, 5, 5), 1);
        Edge.due("of(0, 0)", x.of(0, 0), -200);
        Edge.due("of(1, 0)", x.of(1, 0), 200);
        for (int bad : BAD_ACROSS) {
            Edge.due("track(" + bad + ", 5, 5)", x.track(bad, 5, 5), -1);
        }
    }

    /** Promise 2, Terms: "ROUND 0 .. 359 (going round)". */
    static void p02_round() {
        JetTrees x = new JetTrees();
        Edge.due("0", x.track(5, 0, 5), 0);
        Edge.due("359", x.track(5, 359, 5), 1);
        Edge.due("of(0, 1)", x.of(0, 1), 0);
        Edge.due("of(1, 1)", x.of(1, 1), 359);
        for (int bad : BAD_ROUND) {
            Edge.due("track(5, " + bad + ", 5)", x.track(5, bad, 5), -1);
        }
    }

    /** Promise 2, Terms: "WEIGHT 1 .. 9999". */
    static void p02_weight() {
        JetTrees x = new JetTrees();
        Edge.due("1", x.track(5, 5, 1), 0);
        Edge.due("9999", x.track(5, 5, 9999), 1);
        Edge.due("of(0, 2)", x.of(0, 2), 1);
        Edge.due("of(1, 2)", x.of(1, 2), 9999);
        for (int bad : BAD_WEIGHT) {
            Edge.due("track(5, 5, " + bad + ")", x.track(5, 5, bad), -1);
        }
    }

    /** Promise 2: "NONE for others": all is as it was. */
    static void p02_refusedLeavesAll() {
        Edge.leavesAll(x -> {
            x.track(-201, 0, 1);
            x.track(0, 360, 1);
            x.track(0, 0, 10000);
            x.track(0, 0, 0);
        });
    }

    // ---- Promise 3: move

    /** Promise 3: "False for others.": the first and the last TRACK have another PLACE, none beside them. */
    static void p03_numbers() {
        JetTrees x = Edge.of(Edge.t(1, 2, 3), Edge.t(4, 5, 6), Edge.t(7, 8, 9));
        Edge.due("move(0, 9, 9)", x.move(0, 9, 9), true);
        Edge.due("move(2, 8, 8)", x.move(2, 8, 8), true);
        Edge.due("of(0, 0)", x.of(0, 0), 9);
        Edge.due("of(1, 0)", x.of(1, 0), 4);
        Edge.due("of(2, 1)", x.of(2, 1), 8);
        for (int bad : new int[] {-1, 3, 39, 40, MIN_VALUE, MAX_VALUE}) {
            Edge.due("move(" + bad + ", 0, 0)", x.move(bad, 0, 0), false);
        }
    }

    /** Promise 3: "False for others.": without TRACKS there is none to move. */
    static void p03_withoutTracks() {
        Edge.due("move(0, 0, 0)", new JetTrees().move(0, 0, 0), false);
    }

    /** Promise 3: "A TRACK has another PLACE": the last of 40, number 39. */
    static void p03_the40th() {
        JetTrees x = full();
        Edge.due("move(39, 1, 1)", x.move(39, 1, 1), true);
        Edge.due("of(39, 0)", x.of(39, 0), 1);
        Edge.due("move(40, 1, 1)", x.move(40, 1, 1), false);
    }

    /** Promise 3, Terms: "ACROSS -200 .. 200". */
    static void p03_across() {
        JetTrees x = Edge.of(Edge.t(1, 2, 3));
        Edge.due("move(0, -200, 0)", x.move(0, -200, 0), true);
        Edge.due("of(0, 0)", x.of(0, 0), -200);
        Edge.due("move(0, 200, 0)", x.move(0, 200, 0), true);
        Edge.due("of(0, 0)", x.of(0, 0), 200);
        for (int bad : BAD_ACROSS) {
            Edge.due("move(0, " + bad + ", 0)", x.move(0, bad, 0), false);
        }
    }

    /** Promise 3, Terms: "ROUND 0 .. 359 (going round)". */
    static void p03_round() {
        JetTrees x = Edge.of(Edge.t(1, 2, 3));
        Edge.due("move(0, 0, 359)", x.move(0, 0, 359), true);
        Edge.due("of(0, 1)", x.of(0, 1), 359);
        Edge.due("move(0, 0, 0)", x.move(0, 0, 0), true);
        Edge.due("of(0, 1)", x.of(0, 1), 0);
        for (int bad : BAD_ROUND) {
            Edge.due("move(0, 0, " + bad + ")", x.move(0, 0, bad), false);
        }
    }

    /** Promise 3: "False for others.": all is as it was. */
    static void p03_refusedLeavesAll() {
        Edge.leavesAll(x -> {
            x.move(6, 0, 0);
            x.move(-1, 0, 0);
            x.move(0, 201, 0);
            x.move(0, 0, 360);
        });
    }

    /** Promise 3: "A TRACK has another PLACE": its WEIGHT stays, and so do a TREE's PLACES ("as they were"). */
    static void p03_weightAndTreeStay() {
        JetTrees x = Edge.five();
        x.move(0, 200, 359);
        Edge.due("of(0, 2)", x.of(0, 2), 100);
        Edge.due("knot(0, 0, 0)", x.knot(0, 0, 0), 0);
        Edge.due("knot(0, 0, 1)", x.knot(0, 0, 1), 0);
    }

    // ---- Promise 4: weigh

    /** Promise 4: "False for others.": the first and the last TRACK have another WEIGHT, none beside them. */
    static void p04_numbers() {
        JetTrees x = Edge.of(Edge.t(1, 2, 3), Edge.t(4, 5, 6), Edge.t(7, 8, 9));
        Edge.due("weigh(0, 33)", x.weigh(0, 33), true);
        Edge.due("weigh(2, 99)", x.weigh(2, 99), true);
        Edge.due("of(0, 2)", x.of(0, 2), 33);
        Edge.due("of(1, 2)", x.of(1, 2), 6);
        Edge.due("of(2, 2)", x.of(2, 2), 99);
        for (int bad : new int[] {-1, 3, 39, 40, MIN_VALUE, MAX_VALUE}) {
            Edge.due("weigh(" + bad + ", 5)", x.weigh(bad, 5), false);
        }
    }

    /** Promise 4: "False for others.": without TRACKS there is none to weigh. */
    static void p04_withoutTracks() {
        Edge.due("weigh(0, 1)", new JetTrees().weigh(0, 1), false);
    }

    /** Promise 4, Terms: "WEIGHT 1 .. 9999". */
    static void p04_weight() {
        JetTrees x = Edge.of(Edge.t(1, 2, 3));
        Edge.due("weigh(0, 9999)", x.weigh(0, 9999), true);
        Edge.due("of(0, 2)", x.of(0, 2), 9999);
        Edge.due("weigh(0, 1)", x.weigh(0, 1), true);
        Edge.due("of(0, 2)", x.of(0, 2), 1);
        for (int bad : BAD_WEIGHT) {
            Edge.due("weigh(0, " + bad + ")", x.weigh(0, bad), false);
        }
    }

    /** Promise 4: "False for others.": all is as it was. */
    static void p04_refusedLeavesAll() {
        Edge.leavesAll(x -> {
            x.weigh(6, 5);
            x.weigh(-1, 5);
            x.weigh(0, 0);
            x.weigh(0, 10000);
        });
    }

    /** Promise 4: "A TRACK has another WEIGHT": its PLACE stays, and so do a TREE's WEIGHTS ("as they were"). */
    static void p04_placeAndTreeStay() {
        JetTrees x = Edge.five();
        x.weigh(4, 9999);
        Edge.due("of(4, 0)", x.of(4, 0), 105);
        Edge.due("of(4, 1)", x.of(4, 1), 100);
        Edge.due("knot(0, 4, 2)", x.knot(0, 4, 2), 40);
    }

    // ---- Promise 5: drop

    /** Promise 5: "NONE for others.": neither -1 nor the number behind the last. */
    static void p05_numbers() {
        JetTrees x = Edge.of(Edge.t(1, 2, 3), Edge.t(4, 5, 6));
        for (int bad : new int[] {-1, 2, 39, 40, MIN_VALUE, MAX_VALUE}) {
            Edge.due("drop(" + bad + ")", x.drop(bad), -1);
        }
        Edge.due("is(3)", x.is(3), 2);
    }

    /** Promise 5: "NONE for others.": without TRACKS. */
    static void p05_withoutTracks() {
        Edge.due("drop(0)", new JetTrees().drop(0), -1);
    }

    /** Promise 5, Terms: "gone (those behind come up by one number)": the first goes. */
    static void p05_theFirst() {
        JetTrees x = Edge.of(Edge.t(1, 2, 3), Edge.t(4, 5, 6), Edge.t(7, 8, 9));
        Edge.due("drop(0)", x.drop(0), 2);
        Edge.due("of(0, 0)", x.of(0, 0), 4);
        Edge.due("of(1, 0)", x.of(1, 0), 7);
        Edge.due("of(2, 0)", x.of(2, 0), -1000);
        Edge.due("nearest(0)", x.nearest(0), 1);
    }

    /** Promise 5, Terms: "gone (those behind come up by one number)": behind the last there are none. */
    static void p05_theLast() {
        JetTrees x = Edge.of(Edge.t(1, 2, 3), Edge.t(4, 5, 6), Edge.t(7, 8, 9));
        Edge.due("drop(2)", x.drop(2), 2);
        Edge.due("of(0, 0)", x.of(0, 0), 1);
        Edge.due("of(1, 0)", x.of(1, 0), 4);
        Edge.due("of(2, 0)", x.of(2, 0), -1000);
    }

    /** Promise 5: "A TRACK is gone: how many there are." Of 40 there are 39, of one there is none. */
    static void p05_howMany() {
        JetTrees x = full();
        Edge.due("drop(39) of 40", x.drop(39), 39);
        Edge.due("drop(39) of 39", x.drop(39), -1);
        JetTrees one = Edge.of(Edge.t(1, 2, 3));
        Edge.due("drop(0) of one", one.drop(0), 0);
        Edge.due("is(3)", one.is(3), 0);
        Edge.due("drop(0) of none", one.drop(0), -1);
    }

    /** Promise 5: "NONE for others.": all is as it was. */
    static void p05_refusedLeavesAll() {
        Edge.leavesAll(x -> {
            x.drop(-1);
            x.drop(6);
        });
    }

    // ---- Promise 6: drawn

    private static int nextX(int x) {
        return (x * 821 + 631) % 30091;
    }

    /** An X from which the goings on ahead of the one asked for leave such a rest. */
    private static int xWith(int goings, int by, int rest) {
        for (int x = 0; x < 30091; x++) {
            int at = x;
            for (int i = 0; i < goings; i++) {
                at = nextX(at);
            }
            if (at % by == rest) {
                return x;
            }
        }
        throw new IllegalStateException("there is no such X");
    }

    private static JetTrees drawnFrom(int x, int across, int round, int spread, int n) {
        JetTrees drawn = new JetTrees();
        drawn.tell(x);
        drawn.drawn(across, round, spread, n);
        return drawn;
    }

    /** Promise 6, Terms: "X is (X * 821 + 631) mod 30091": three times for each TRACK, and it stays where it went. */
    static void p06_xGoesOn() {
        JetTrees x = new JetTrees();
        int at = 701;
        for (int i = 0; i < 60; i++) {
            at = nextX(at);
        }
        Edge.due("drawn(0, 0, 0, 20)", x.drawn(0, 0, 0, 20), 20);
        Edge.due("is(4)", x.is(4), at);
    }

    /** Promise 6, Terms: "X is (X * 821 + 631) mod 30091": from the least and from the greatest X. */
    static void p06_fromTheEndsOfX() {
        Edge.due("from 0", drawnFrom(0, 0, 0, 0, 1).is(4), nextX(nextX(631)));
        Edge.due("from 30090", drawnFrom(30090, 0, 0, 0, 1).is(4), nextX(nextX((30090 * 821 + 631) % 30091)));
    }

    /** Promise 6, Terms: "n TRACKS (1 .. 20)". */
    static void p06_n() {
        JetTrees x = new JetTrees();
        for (int bad : new int[] {0, 21, -1, MIN_VALUE, MAX_VALUE}) {
            Edge.due("drawn(0, 0, 0, " + bad + ")", x.drawn(0, 0, 0, bad), -1);
        }
        Edge.due("drawn(0, 0, 0, 1)", x.drawn(0, 0, 0, 1), 1);
        Edge.due("drawn(0, 0, 0, 20)", x.drawn(0, 0, 0, 20), 21);
    }

    /** Promise 6, Terms: "by a SPREAD (0 .. 60)". */
    static void p06_spread() {
        JetTrees x = new JetTrees();
        for (int bad : new int[] {-1, 61, MIN_VALUE, MAX_VALUE}) {
            Edge.due("drawn(0, 0, " + bad + ", 1)", x.drawn(0, 0, bad, 1), -1);
        }
        Edge.due("drawn(0, 0, 0, 1)", x.drawn(0, 0, 0, 1), 1);
        Edge.due("drawn(0, 0, 60, 1)", x.drawn(0, 0, 60, 1), 2);
    }

    /** Promise 6, Terms: "ACROSS its and X mod (2 SPREAD and 1) less SPREAD": of SPREAD 0 all are on the PLACE itself. */
    static void p06_spreadOfNothing() {
        JetTrees x = drawnFrom(701, -200, 359, 0, 20);
        for (int t = 0; t < 20; t++) {
            Edge.due("of(" + t + ", 0)", x.of(t, 0), -200);
            Edge.due("of(" + t + ", 1)", x.of(t, 1), 359);
        }
    }

    /** Promise 6, Terms: "ACROSS -200 .. 200": of the PLACE about which they are DRAWN. */
    static void p06_across() {
        JetTrees x = new JetTrees();
        for (int bad : BAD_ACROSS) {
            Edge.due("drawn(" + bad + ", 0, 60, 1)", x.drawn(bad, 0, 60, 1), -1);
        }
        Edge.due("drawn(-200, 0, 60, 1)", x.drawn(-200, 0, 60, 1), 1);
        Edge.due("drawn(200, 0, 60, 1)", x.drawn(200, 0, 60, 1), 2);
    }

    /** Promise 6, Terms: "ROUND 0 .. 359 (going round)": of the PLACE about which they are DRAWN. */
    static void p06_round() {
        JetTrees x = new JetTrees();
        for (int bad : BAD_ROUND) {
            Edge.due("drawn(0, " + bad + ", 60, 1)", x.drawn(0, bad, 60, 1), -1);
        }
        Edge.due("drawn(0, 0, 60, 1)", x.drawn(0, 0, 60, 1), 1);
        Edge.due("drawn(0, 359, 60, 1)", x.drawn(0, 359, 60, 1), 2);
    }

    /** Promise 6, Terms: "(held within -200 .. 200)": 60 past either end, and just on it. */
    static void p06_heldAcross() {
        int least = xWith(1, 121, 0);
        int greatest = xWith(1, 121, 120);
        Edge.due("60 below -200", drawnFrom(least, -200, 0, 60, 1).of(0, 0), -200);
        Edge.due("60 below -141", drawnFrom(least, -141, 0, 60, 1).of(0, 0), -200);
        Edge.due("60 below -140", drawnFrom(least, -140, 0, 60, 1).of(0, 0), -200);
        Edge.due("60 below -139", drawnFrom(least, -139, 0, 60, 1).of(0, 0), -199);
        Edge.due("60 above 200", drawnFrom(greatest, 200, 0, 60, 1).of(0, 0), 200);
        Edge.due("60 above 141", drawnFrom(greatest, 141, 0, 60, 1).of(0, 0), 200);
        Edge.due("60 above 140", drawnFrom(greatest, 140, 0, 60, 1).of(0, 0), 200);
        Edge.due("60 above 139", drawnFrom(greatest, 139, 0, 60, 1).of(0, 0), 199);
    }

    /** Promise 6, Terms: "ROUND its and X mod (2 SPREAD and 1) less SPREAD, mod 360": past 359 and below 0. */
    static void p06_roundGoesRound() {
        int least = xWith(2, 121, 0);
        int greatest = xWith(2, 121, 120);
        Edge.due("60 below 0", drawnFrom(least, 0, 0, 60, 1).of(0, 1), 300);
        Edge.due("60 below 59", drawnFrom(least, 0, 59, 60, 1).of(0, 1), 359);
        Edge.due("60 below 60", drawnFrom(least, 0, 60, 60, 1).of(0, 1), 0);
        Edge.due("60 above 299", drawnFrom(greatest, 0, 299, 60, 1).of(0, 1), 359);
        Edge.due("60 above 300", drawnFrom(greatest, 0, 300, 60, 1).of(0, 1), 0);
        Edge.due("60 above 359", drawnFrom(greatest, 0, 359, 60, 1).of(0, 1), 59);
    }

    /** Promise 6, Terms: "WEIGHT X mod 500 and 1": 1 is the least, 500 the greatest. */
    static void p06_weight() {
        Edge.due("the least", drawnFrom(xWith(3, 500, 0), 0, 0, 0, 1).of(0, 2), 1);
        Edge.due("the greatest", drawnFrom(xWith(3, 500, 499), 0, 0, 0, 1).of(0, 2), 500);
    }

    /** Promise 6: "NONE for others, and if there would be more than 40.": just 40 there may be. */
    static void p06_just40() {
        JetTrees x = Edge.many(20);
        Edge.due("20 and 20", x.drawn(0, 0, 5, 20), 40);
        JetTrees y = Edge.many(39);
        Edge.due("39 and 1", y.drawn(0, 0, 5, 1), 40);
    }

    /** Promise 6: "and if there would be more than 40.": none is DRAWN then, and X stays. */
    static void p06_moreThan40() {
        Edge.due("21 and 20", Edge.many(21).drawn(0, 0, 5, 20), -1);
        Edge.due("39 and 2", Edge.many(39).drawn(0, 0, 5, 2), -1);
        Edge.due("40 and 1", full().drawn(0, 0, 5, 1), -1);
        Edge.leavesAll(() -> Edge.many(21), x -> x.drawn(0, 0, 5, 20));
        Edge.leavesAll(EdgesOfTracksTest::full, x -> x.drawn(0, 0, 5, 1));
    }

    /** Promise 6: "DRAWN: how many there are.": behind those that were there, one STEP for all of them. */
    static void p06_oneStep() {
        JetTrees x = Edge.of(Edge.t(1, 2, 3));
        Edge.due("drawn(5, 5, 0, 20)", x.drawn(5, 5, 0, 20), 21);
        Edge.due("steps()", x.steps(), 2);
        Edge.due("of(0, 0)", x.of(0, 0), 1);
        Edge.due("of(1, 0)", x.of(1, 0), 5);
        Edge.due("undo()", x.undo(), 1);
        Edge.due("is(3)", x.is(3), 1);
        Edge.due("is(4)", x.is(4), 701);
    }

    /** Promise 6: "NONE for others": all is as it was, X too. */
    static void p06_refusedLeavesAll() {
        Edge.leavesAll(x -> {
            x.drawn(201, 0, 5, 1);
            x.drawn(0, 360, 5, 1);
            x.drawn(0, 0, 61, 1);
            x.drawn(0, 0, 5, 21);
            x.drawn(0, 0, 5, 0);
        });
    }

    // ---- Promise 7: tell

    /** Promise 7: "X is told (0 .. 30090): true." and "False for others." */
    static void p07_x() {
        JetTrees x = new JetTrees();
        Edge.due("tell(0)", x.tell(0), true);
        Edge.due("is(4)", x.is(4), 0);
        Edge.due("tell(30090)", x.tell(30090), true);
        Edge.due("is(4)", x.is(4), 30090);
        for (int bad : new int[] {-1, 30091, MIN_VALUE, MAX_VALUE}) {
            Edge.due("tell(" + bad + ")", x.tell(bad), false);
        }
        Edge.due("is(4)", x.is(4), 30090);
    }

    /** Promise 7: "It is no STEP." */
    static void p07_noStep() {
        JetTrees x = new JetTrees();
        x.tell(5);
        Edge.due("steps()", x.steps(), 0);
        Edge.due("undo()", x.undo(), -1);
        Edge.due("is(4)", x.is(4), 5);
        x.track(1, 1, 1);
        x.tell(6);
        Edge.due("steps()", x.steps(), 1);
    }

    /** Promise 7: "False for others.": all is as it was. */
    static void p07_refusedLeavesAll() {
        Edge.leavesAll(x -> {
            x.tell(-1);
            x.tell(30091);
        });
    }

    // ---- Promise 8: set

    private static void taken(int what, int... values) {
        JetTrees x = new JetTrees();
        for (int value : values) {
            Edge.due("set(" + what + ", " + value + ")", x.set(what, value), true);
            Edge.due("is(" + what + ")", x.is(what), value);
        }
    }

    private static void notTaken(int what, int... values) {
        JetTrees x = new JetTrees();
        for (int value : values) {
            Edge.due("set(" + what + ", " + value + ")", x.set(what, value), false);
        }
        Edge.same("what is set", Edge.look(x), Edge.look(new JetTrees()));
    }

    /** Promise 8, Terms: "RADIUS 1 .. 200". */
    static void p08_radius() {
        taken(0, 1, 200);
        notTaken(0, 0, 201, -1, MIN_VALUE, MAX_VALUE);
    }

    /** Promise 8, Terms: "POWER -1, 0, 1". */
    static void p08_power() {
        taken(1, 1, 0, -1);
        notTaken(1, -2, 2, MIN_VALUE, MAX_VALUE);
    }

    /** Promise 8, Terms: "SUMS 0, 1". */
    static void p08_sums() {
        taken(2, 1, 0);
        notTaken(2, -1, 2, MIN_VALUE, MAX_VALUE);
    }

    /** Promise 8: "0 RADIUS, 1 POWER, 2 SUMS: true. False for others." */
    static void p08_what() {
        notTaken(-1, 1, 0, 40);
        notTaken(3, 1, 0, 40);
        notTaken(MIN_VALUE, 1);
        notTaken(MAX_VALUE, 1);
    }

    /** Promise 8: "False for others.": all is as it was. */
    static void p08_refusedLeavesAll() {
        Edge.leavesAll(x -> {
            x.set(0, 0);
            x.set(0, 201);
            x.set(1, 2);
            x.set(2, 2);
            x.set(3, 1);
            x.set(-1, 1);
        });
    }

    // ---- Promise 16: is

    /** Promise 16: "-2 for others." */
    static void p16_others() {
        JetTrees x = Edge.busy();
        for (int bad : new int[] {-1, 8, MIN_VALUE, MAX_VALUE}) {
            Edge.due("is(" + bad + ")", x.is(bad), -2);
        }
    }

    /** Promise 16: "0 RADIUS, 1 POWER" .. "7 which EVENT is IN HAND": the first and the last that can be asked for. */
    static void p16_firstAndLast() {
        JetTrees x = new JetTrees();
        x.set(0, 200);
        x.hand(2);
        Edge.due("is(0)", x.is(0), 200);
        Edge.due("is(7)", x.is(7), 2);
    }

    /** Promise 16: "5 TREES that there are (bits)": none, the last, all four. */
    static void p16_trees() {
        JetTrees x = Edge.of(Edge.t(0, 0, 1));
        Edge.due("none", x.is(5), 0);
        x.gather(3);
        Edge.due("TREE 3", x.is(5), 8);
        x.gather(0);
        x.gather(1);
        x.gather(2);
        Edge.due("all", x.is(5), 15);
        x.free(3);
        Edge.due("but TREE 3", x.is(5), 7);
    }

    /** Promise 16: "6 WEIGHTS of all TRACKS together": of none 0, of 40 heaviest ones 399960. */
    static void p16_weights() {
        JetTrees x = new JetTrees();
        Edge.due("of none", x.is(6), 0);
        for (int i = 0; i < 40; i++) {
            x.track(0, 0, 9999);
        }
        Edge.due("of 40", x.is(6), 399960);
        x.hand(1);
        Edge.due("of another EVENT", x.is(6), 0);
    }

    /** Promise 16: "3 TRACKS": none, and as many as there may be. */
    static void p16_tracks() {
        Edge.due("none", new JetTrees().is(3), 0);
        Edge.due("40", full().is(3), 40);
    }

    /** Promise 16: "4 X": the greatest one that can be told. */
    static void p16_x() {
        JetTrees x = new JetTrees();
        x.tell(30090);
        Edge.due("is(4)", x.is(4), 30090);
    }

    // ---- Promise 17: of

    /** Promise 17: "-1000 for others.": the first and the last TRACK are answered, none beside them. */
    static void p17_numbers() {
        JetTrees x = full();
        Edge.due("of(0, 2)", x.of(0, 2), 1);
        Edge.due("of(39, 2)", x.of(39, 2), 40);
        for (int bad : new int[] {-1, 40, MIN_VALUE, MAX_VALUE}) {
            Edge.due("of(" + bad + ", 0)", x.of(bad, 0), -1000);
        }
        Edge.due("without TRACKS", new JetTrees().of(0, 0), -1000);
    }

    /** Promise 17: "0 ACROSS, 1 ROUND, 2 WEIGHT. -1000 for others." */
    static void p17_what() {
        JetTrees x = Edge.of(Edge.t(-200, 359, 9999));
        Edge.due("of(0, 0)", x.of(0, 0), -200);
        Edge.due("of(0, 1)", x.of(0, 1), 359);
        Edge.due("of(0, 2)", x.of(0, 2), 9999);
        for (int bad : new int[] {-1, 3, MIN_VALUE, MAX_VALUE}) {
            Edge.due("of(0, " + bad + ")", x.of(0, bad), -1000);
        }
    }

    // ---- Promise 18: square

    /** Promise 18: "NONE for others.": of either TRACK the numbers beside the first and the last. */
    static void p18_numbers() {
        JetTrees x = Edge.of(Edge.t(0, 0, 1), Edge.t(3, 4, 1));
        Edge.due("square(0, 1)", x.square(0, 1), 25);
        Edge.due("square(1, 0)", x.square(1, 0), 25);
        for (int bad : new int[] {-1, 2, 40, MIN_VALUE, MAX_VALUE}) {
            Edge.due("square(" + bad + ", 0)", x.square(bad, 0), -1);
            Edge.due("square(0, " + bad + ")", x.square(0, bad), -1);
        }
        Edge.due("without TRACKS", new JetTrees().square(0, 0), -1);
    }

    /** Promise 18, Terms: "the difference ACROSS, and the lesser way ROUND, each times itself, together": past 359. */
    static void p18_pastTheLastDegree() {
        JetTrees x = Edge.of(Edge.t(0, 0, 1), Edge.t(0, 359, 1), Edge.t(0, 180, 1), Edge.t(0, 181, 1), Edge.t(0, 179, 1));
        Edge.due("0 to 359", x.square(0, 1), 1);
        Edge.due("359 to 0", x.square(1, 0), 1);
        Edge.due("0 to 180", x.square(0, 2), 180 * 180);
        Edge.due("0 to 181", x.square(0, 3), 179 * 179);
        Edge.due("0 to 179", x.square(0, 4), 179 * 179);
        Edge.due("359 to 180", x.square(1, 2), 179 * 179);
        Edge.due("359 to 179", x.square(1, 4), 180 * 180);
    }

    /** Promise 18, Terms: "SQUARE of two PLACES": like PLACES have 0, the farthest 192400. */
    static void p18_leastAndGreatest() {
        JetTrees x = Edge.of(Edge.t(-200, 0, 1), Edge.t(200, 180, 1), Edge.t(200, 180, 9));
        Edge.due("the greatest", x.square(0, 1), 192400);
        Edge.due("the least", x.square(1, 2), 0);
        Edge.due("of one with itself", x.square(0, 0), 0);
    }

    // ---- Promise 19: nearest

    /** Promise 19: "NONE: there is no other one": one TRACK alone. */
    static void p19_noOther() {
        Edge.due("nearest(0)", Edge.of(Edge.t(0, 0, 1)).nearest(0), -1);
    }

    /** Promise 19: "and for others.": numbers beside the first and the last. */
    static void p19_numbers() {
        JetTrees x = Edge.of(Edge.t(0, 0, 1), Edge.t(3, 4, 1));
        Edge.due("nearest(0)", x.nearest(0), 1);
        Edge.due("nearest(1)", x.nearest(1), 0);
        for (int bad : new int[] {-1, 2, 40, MIN_VALUE, MAX_VALUE}) {
            Edge.due("nearest(" + bad + ")", x.nearest(bad), -1);
        }
        Edge.due("without TRACKS", new JetTrees().nearest(0), -1);
    }

    /** Promise 19: "of like ones as they come ahead", Terms: "the lesser ACROSS". */
    static void p19_likeAcross() {
        Edge.due("nearest(0)", Edge.of(Edge.t(0, 0, 5), Edge.t(5, 0, 1), Edge.t(-5, 0, 9)).nearest(0), 2);
    }

    /** Promise 19: "of like ones as they come ahead", Terms: "of like ones the lesser ROUND": by number, not by way. */
    static void p19_likeRound() {
        Edge.due("nearest(0)", Edge.of(Edge.t(0, 0, 5), Edge.t(0, 355, 1), Edge.t(0, 5, 9)).nearest(0), 2);
    }

    /** Promise 19: "of like ones as they come ahead", Terms: "then the lesser WEIGHT". */
    static void p19_likeWeight() {
        Edge.due("nearest(0)", Edge.of(Edge.t(0, 0, 5), Edge.t(0, 5, 9), Edge.t(0, 5, 8)).nearest(0), 2);
    }

    /** Promise 19: "of like ones as they come ahead", Terms: "then the lower number". */
    static void p19_likeNumber() {
        JetTrees x = Edge.of(Edge.t(0, 5, 9), Edge.t(0, 5, 9), Edge.t(0, 5, 9));
        Edge.due("nearest(0)", x.nearest(0), 1);
        Edge.due("nearest(1)", x.nearest(1), 0);
        Edge.due("nearest(2)", x.nearest(2), 0);
    }

    /** Promise 19: "The TRACK nearest to one (SQUARE)": the way past 359 is the lesser one. */
    static void p19_pastTheLastDegree() {
        JetTrees x = Edge.of(Edge.t(0, 1, 5), Edge.t(0, 4, 5), Edge.t(0, 359, 5));
        Edge.due("nearest(0)", x.nearest(0), 2);
        Edge.due("nearest(2)", x.nearest(2), 0);
    }

    /** Promise 19: "The TRACK nearest to one (SQUARE)": of 40. */
    static void p19_of40() {
        JetTrees x = full();
        Edge.due("nearest(39): 9 to 38, 9 to 0", x.nearest(39), 0);
        Edge.due("nearest(38)", x.nearest(38), 37);
    }
}
