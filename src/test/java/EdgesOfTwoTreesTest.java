import static java.lang.Integer.MAX_VALUE;
import static java.lang.Integer.MIN_VALUE;

import java.util.function.IntToLongFunction;

/** The edges of promises 42 to 50 and 58: a test for each sentence, whose first remark says which. */
public final class EdgesOfTwoTreesTest {
    public static void main(String[] args) {
        Edge.run(EdgesOfTwoTreesTest.class);
    }

    private static void bad(String call, long due, IntToLongFunction asked, int... values) {
        for (int value : values) {
            Edge.due(call + " " + value, asked.applyAsLong(value), due);
        }
        Edge.due(call + " the least int", asked.applyAsLong(MIN_VALUE), due);
        Edge.due(call + " the greatest int", asked.applyAsLong(MAX_VALUE), due);
    }

    /** TREES beside 0 and 3, which there are. */
    private static void badTrees(String call, long due, IntToLongFunction asked) {
        bad(call, due, asked, -1, 1, 2, 4);
    }

    /** TREE 0 of five() has JETS 6 (TRACKS 0, 1, 2) and 7 (3, 4); TREE 3, by RADIUS 4, 5 (0, 1), 2, 4 and 3. */
    private static JetTrees both() {
        JetTrees x = Edge.five();
        x.set(0, 4);
        Edge.due("JETS of TREE 3", x.gather(3), 4);
        return x;
    }

    /** Each TRACK a JET by itself, in TREE 0. */
    private static JetTrees alone(int[]... tracks) {
        return Edge.treeOf(0, 1, 0, tracks);
    }

    private static JetTrees fortyJets() {
        JetTrees x = Edge.many(40);
        x.set(1, 0);
        x.set(0, 9);
        Edge.due("40 JETS", x.gather(0), 40);
        return x;
    }

    // ---- Promise 42: matched

    /** Promise 42: "NONE: none, and for others.": TREES beside those that there are, on either side. */
    static void p42_trees() {
        JetTrees x = both();
        badTrees("the one", -1, tree -> x.matched(tree, 2, 0));
        badTrees("the other", -1, tree -> x.matched(0, 6, tree));
        Edge.due("TREES 0 and 3", x.matched(0, 6, 3), 5);
        Edge.due("TREES 3 and 0", x.matched(3, 2, 0), 6);
    }

    /** Promise 42: "MATCHED, the JET (a KNOT) of a TREE": no KNOT beside those that there are, and none that is no JET. */
    static void p42_jet() {
        JetTrees x = both();
        bad("KNOT", -1, knot -> x.matched(0, knot, 3), -1, 8, 79);
        for (int knot = 0; knot < 6; knot++) {
            Edge.due("KNOT " + knot + " is no JET", x.matched(0, knot, 3), -1);
        }
        Edge.due("TRACK 4 is a JET of TREE 3", x.matched(3, 4, 0), 7);
        Edge.due("KNOT 7 is the last", x.matched(0, 7, 3), 4);
    }

    /** Promise 42: "NONE: none": a JET that shares no WEIGHT with any, as the other TREE has no such TRACKS. */
    static void p42_none() {
        JetTrees x = Edge.five();
        x.drop(4);
        x.drop(3);
        x.gather(3);
        Edge.due("TRACKS 3 and 4 aren't there", x.matched(0, 7, 3), -1);
        Edge.due("TRACKS 0 to 2 are", x.matched(0, 6, 3), x.jet(3, 0));
    }

    /** Promise 42, II: "with which it shares most WEIGHT": WEIGHT 1 is enough. */
    static void p42_weight1() {
        JetTrees x = alone(Edge.t(0, 0, 1));
        x.track(9, 9, 9);
        x.gather(3);
        Edge.due("WEIGHT 1 is shared", x.matched(0, 0, 3), 0);
    }

    /** Promise 42, II: "of like ones the first by WEIGHT": WEIGHT of JETS of the other TREE, and then as they come ahead. */
    static void p42_likeOnes() {
        JetTrees x = Edge.treeOf(0, 200, 0, Edge.t(50, 0, 7), Edge.t(0, 0, 7));
        x.set(0, 1);
        x.gather(1);
        Edge.due("like WEIGHTS: the one ahead", x.matched(0, 2, 1), 1);
        x.weigh(0, 8);
        x.gather(1);
        Edge.due("the heavier one there", x.matched(0, 2, 1), 0);
        x.weigh(0, 6);
        x.gather(1);
        Edge.due("the heavier one there", x.matched(0, 2, 1), 1);
    }

    /** Promise 42, II: "WEIGHTS as in the first TREE": heavier by 1 there, much lighter in the other. */
    static void p42_asInTheFirst() {
        JetTrees x = Edge.treeOf(0, 200, 0, Edge.t(50, 0, 7), Edge.t(0, 0, 8));
        x.set(0, 1);
        x.weigh(0, 9999);
        x.gather(1);
        Edge.due("8 of the first TREE", x.matched(0, 2, 1), 1);
    }

    // ---- Promises 43 and 44: alike, unlike

    /** Promise 43: "False for others.": TREES beside those that there are, on either side and on both. */
    static void p43_trees() {
        JetTrees x = both();
        x.set(0, 10);
        x.gather(3);
        Edge.due("alike(0, 3)", x.alike(0, 3), true);
        badTrees("the one", 0, tree -> x.alike(tree, 0) ? 1 : 0);
        badTrees("the other", 0, tree -> x.alike(0, tree) ? 1 : 0);
        badTrees("both", 0, tree -> x.alike(tree, tree) ? 1 : 0);
    }

    /** Promise 43: "(LEAVES, each with another one)": a JET more on either side isn't alike. */
    static void p43_each() {
        JetTrees x = Edge.five();
        x.track(0, 250, 5);
        x.gather(1);
        Edge.due("JETS", x.tree(1, 2), 3);
        Edge.due("alike(0, 1)", x.alike(0, 1), false);
        Edge.due("alike(1, 0)", x.alike(1, 0), false);
        Edge.due("alike(1, 1)", x.alike(1, 1), true);
    }

    /** Promise 43: "Whether two TREES have like JETS (LEAVES, each with another one)": whatever their WEIGHTS and PLACES. */
    static void p43_leavesAlone() {
        JetTrees x = Edge.five();
        for (int t = 0; t < 5; t++) {
            x.weigh(t, 7);
        }
        x.set(0, 11);
        x.set(2, 1);
        x.gather(1);
        Edge.due("other WEIGHTS and PLACES", x.alike(0, 1), true);
    }

    /** Promise 44: "NONE for others.": TREES beside those that there are, on either side. */
    static void p44_trees() {
        JetTrees x = both();
        badTrees("the one", -1, tree -> x.unlike(tree, 0));
        badTrees("the other", -1, tree -> x.unlike(0, tree));
    }

    /** Promise 44: "How many JETS of one TREE have no like one (LEAVES) in another TREE.": none, some, all. */
    static void p44_noneToAll() {
        JetTrees x = both();
        Edge.due("none", x.unlike(0, 0), 0);
        Edge.due("all of 0", x.unlike(0, 3), 2);
        Edge.due("all of 3", x.unlike(3, 0), 4);
        x.set(0, 5);
        x.gather(1);
        Edge.due("one of 0", x.unlike(0, 1), 1);
        Edge.due("two of 1", x.unlike(1, 0), 2);
        JetTrees y = fortyJets();
        y.set(0, 200);
        y.gather(1);
        Edge.due("40 of 40", y.unlike(0, 1), 40);
        Edge.due("the one", y.unlike(1, 0), 1);
    }

    // ---- Promise 45: backToBack

    /** Promise 45: "NONE: there aren't two": one JET. */
    static void p45_notTwo() {
        Edge.due("one TRACK", alone(Edge.t(0, 0, 1)).backToBack(0), -1);
        Edge.due("two in one JET", Edge.treeOf(0, 9, 0, Edge.t(0, 0, 1), Edge.t(0, 1, 1)).backToBack(0), -1);
        Edge.due("two JETS", alone(Edge.t(0, 0, 1), Edge.t(0, 1, 1)).backToBack(0), 1);
    }

    /** Promise 45: "and for others.": TREES beside those that there are. */
    static void p45_trees() {
        JetTrees x = both();
        badTrees("TREE", -1, x::backToBack);
    }

    /** Promise 45: "The lesser way ROUND": 0, 180, and past 359. */
    static void p45_way() {
        Edge.due("0", alone(Edge.t(0, 5, 1), Edge.t(9, 5, 1)).backToBack(0), 0);
        Edge.due("180", alone(Edge.t(0, 0, 1), Edge.t(9, 180, 1)).backToBack(0), 180);
        Edge.due("181", alone(Edge.t(0, 0, 1), Edge.t(9, 181, 1)).backToBack(0), 179);
        Edge.due("359", alone(Edge.t(0, 0, 1), Edge.t(9, 359, 1)).backToBack(0), 1);
        Edge.due("359 the other way", alone(Edge.t(0, 359, 1), Edge.t(9, 0, 1)).backToBack(0), 1);
    }

    /** Promise 45: "of the two heaviest JETS", II: "of like ones as they come ahead". */
    static void p45_likeOnes() {
        JetTrees x = alone(Edge.t(50, 30, 5), Edge.t(-50, 100, 5), Edge.t(0, 0, 5));
        Edge.due("the two ahead", x.backToBack(0), 100);
    }

    // ---- Promise 46: fresh

    /** Promise 46: "False for others.": TREES beside those that there are. */
    static void p46_trees() {
        JetTrees x = both();
        Edge.due("fresh(3)", x.fresh(3), true);
        badTrees("TREE", 0, tree -> x.fresh(tree) ? 1 : 0);
    }

    /** Promise 46: "would have just the STEPS of a TREE, as many": without TRACKS there are none, and one more is too many. */
    static void p46_asMany() {
        JetTrees x = alone(Edge.t(0, 0, 1));
        Edge.due("just so", x.fresh(0), true);
        x.track(0, 0, 1);
        Edge.due("a TRACK more", x.fresh(0), false);
        x.drop(1);
        Edge.due("just so again", x.fresh(0), true);
        x.drop(0);
        Edge.due("without TRACKS", x.fresh(0), false);
        JetTrees y = alone(Edge.t(-100, 0, 1), Edge.t(0, 0, 1), Edge.t(100, 0, 1));
        y.drop(2);
        Edge.due("the first two STEPS alone", y.fresh(0), false);
        y.track(100, 0, 1);
        Edge.due("all three", y.fresh(0), true);
        y.track(150, 0, 1);
        Edge.due("one more behind them", y.fresh(0), false);
    }

    /** Promise 46: "(KNOTS, MEASURES)": another MEASURE of the beam, or other KNOTS, however little. */
    static void p46_knotsAndMeasures() {
        JetTrees x = Edge.five();
        x.set(0, 11);
        Edge.due("another RADIUS", x.fresh(0), false);
        x.set(0, 10);
        Edge.due("as it was", x.fresh(0), true);
        x.weigh(3, 31);
        Edge.due("POWER 0: like MEASURES by other WEIGHTS", x.fresh(0), true);
        x.move(3, 101, 100);
        Edge.due("another MEASURE of two", x.fresh(0), false);
        // Both go to the beam: moved, they go the other way about.
        JetTrees y = alone(Edge.t(0, 0, 1), Edge.t(100, 0, 1));
        y.move(0, 101, 0);
        Edge.due("other KNOTS, like MEASURES", y.fresh(0), false);
    }

    /** Promise 46: "would have just the STEPS of a TREE": all but the first, and all but the last, aren't enough. */
    static void p46_theFirstAndTheLast() {
        JetTrees x = Edge.treeOf(0, 10, 1, Edge.t(0, 0, 9), Edge.t(3, 0, 1));
        x.move(1, 4, 0);
        Edge.due("16 in the place of 9, then the same", x.fresh(0), false);
        x.move(1, 3, 0);
        Edge.due("as it was", x.fresh(0), true);
        x.set(0, 11);
        Edge.due("9, then 121 in the place of 100", x.fresh(0), false);
    }

    // ---- Promises 47 and 48: pair, nearestPair

    /** Promise 47: "NONE for others (i below j).": not i like j, not above. */
    static void p47_iBelowJ() {
        JetTrees x = alone(Edge.t(0, 0, 3), Edge.t(10, 0, 2), Edge.t(30, 0, 1));
        Edge.due("pair(0, 0, 1)", x.pair(0, 0, 1), 600);
        Edge.due("pair(0, 0, 2)", x.pair(0, 0, 2), 2700);
        Edge.due("pair(0, 1, 2)", x.pair(0, 1, 2), 800);
        for (int i = 0; i < 3; i++) {
            for (int j = 0; j <= i; j++) {
                Edge.due("pair(0, " + i + ", " + j + ")", x.pair(0, i, j), -1);
            }
        }
    }

    /** Promise 47: "NONE for others": i and j beside those that there are. */
    static void p47_others() {
        JetTrees x = both();
        bad("i", -1, i -> x.pair(3, i, 3), -1, 3, 4, 40);
        bad("j", -1, j -> x.pair(3, 0, j), -1, 0, 4, 40);
        badTrees("TREE", -1, tree -> x.pair(tree, 0, 1));
        Edge.due("one JET", alone(Edge.t(0, 0, 1)).pair(0, 0, 1), -1);
        Edge.due("the last two of 40: 1 and 2, 81", fortyJets().pair(0, 38, 39), 162);
    }

    /** Promise 47: "PAIRS: both WEIGHTS times SQUARE.": the least, the greatest of two TRACKS and of all. */
    static void p47_leastAndGreatest() {
        JetTrees x = alone(Edge.t(-200, 0, 9999), Edge.t(200, 180, 9999));
        Edge.due("the greatest", x.pair(0, 0, 1), 9999L * 9999 * 192400);
        // Two JETS that have all WEIGHT that there can be.
        JetTrees y = new JetTrees();
        y.set(0, 1);
        y.set(1, 0);
        for (int i = 0; i < 40; i++) {
            y.track(i < 20 ? -200 : 200, i < 20 ? 0 : 180, 9999);
        }
        Edge.due("two JETS", y.gather(0), 2);
        Edge.due("the greatest of all", y.pair(0, 0, 1), 199980L * 199980 * 192400);
        Edge.due("1 apart", alone(Edge.t(0, 0, 1), Edge.t(1, 0, 1)).pair(0, 0, 1), 1);
    }

    /** Promise 48: "nearest to a mark (0 or more)". */
    static void p48_mark() {
        JetTrees x = both();
        Edge.due("mark 0", x.nearestPair(0, 0), 1);
        Edge.due("the greatest mark", x.nearestPair(0, Long.MAX_VALUE), 1);
        Edge.due("mark -1", x.nearestPair(0, -1), -1);
        Edge.due("the least mark", x.nearestPair(0, Long.MIN_VALUE), -1);
    }

    /** Promise 48: "NONE: there are no two JETS, and for others." */
    static void p48_noTwo() {
        Edge.due("one JET", alone(Edge.t(0, 0, 1)).nearestPair(0, 0), -1);
        JetTrees x = both();
        badTrees("TREE", -1, tree -> x.nearestPair(tree, 0));
    }

    /** Promise 48: "of like ones the least": of like numbers, and of one as far above the mark as another below. */
    static void p48_likeOnes() {
        // 0, 1, 2 by WEIGHT: 0 and 1: 600, 0 and 2: 2700, 1 and 2: 800.
        JetTrees x = alone(Edge.t(0, 0, 3), Edge.t(10, 0, 2), Edge.t(30, 0, 1));
        Edge.due("699", x.nearestPair(0, 699), 1);
        Edge.due("700: 600 and 800 are as far", x.nearestPair(0, 700), 1);
        Edge.due("701", x.nearestPair(0, 701), 42);
        Edge.due("1749", x.nearestPair(0, 1749), 42);
        Edge.due("1750: 800 and 2700 are as far", x.nearestPair(0, 1750), 2);
        Edge.due("1751", x.nearestPair(0, 1751), 2);
        JetTrees like = alone(Edge.t(0, 0, 5), Edge.t(10, 0, 5), Edge.t(20, 0, 5));
        Edge.due("like numbers", like.nearestPair(0, 2500), 1);
        Edge.due("like numbers, below", like.nearestPair(0, 0), 1);
    }

    /** Promise 48: "40 times i and j": the first two, and the last two of 40. */
    static void p48_firstAndLast() {
        JetTrees x = fortyJets();
        Edge.due("the lightest ones are the least", x.nearestPair(0, 0), 40 * 38 + 39);
        Edge.due("the first of two", both().nearestPair(0, 5), 1);
    }

    /** Promise 48: "PAIRS: that whose number is nearest to a mark": marks about the greatest number that there is. */
    static void p48_great() {
        JetTrees x = alone(Edge.t(-200, 0, 9999), Edge.t(200, 180, 9999), Edge.t(0, 90, 9998));
        long most = 9999L * 9999 * 192400;
        Edge.due("just so", x.nearestPair(0, most), 1);
        Edge.due("the greatest long", x.nearestPair(0, Long.MAX_VALUE), 1);
    }

    // ---- Promise 49: count

    /** Promise 49: "JETS of WEIGHT w (0 or more) or more": just as much counts; w below 0 doesn't. */
    static void p49_weight() {
        JetTrees x = alone(Edge.t(0, 0, 10), Edge.t(9, 90, 20), Edge.t(0, 180, 30));
        Edge.due("0", x.count(0, 0, 200), 3);
        Edge.due("10", x.count(0, 10, 200), 3);
        Edge.due("11", x.count(0, 11, 200), 2);
        Edge.due("30", x.count(0, 30, 200), 1);
        Edge.due("31", x.count(0, 31, 200), 0);
        Edge.due("the greatest int", x.count(0, MAX_VALUE, 200), 0);
        Edge.due("-1", x.count(0, -1, 200), -1);
        Edge.due("the least int", x.count(0, MIN_VALUE, 200), -1);
    }

    /** Promise 49: "whose ACROSS is within -a .. a (a 0 .. 200)": just on either end counts. */
    static void p49_a() {
        JetTrees x = alone(Edge.t(-200, 0, 1), Edge.t(200, 90, 1), Edge.t(-7, 180, 1), Edge.t(7, 180, 1), Edge.t(0, 270, 1));
        Edge.due("0", x.count(0, 0, 0), 1);
        Edge.due("6", x.count(0, 0, 6), 1);
        Edge.due("7", x.count(0, 0, 7), 3);
        Edge.due("199", x.count(0, 0, 199), 3);
        Edge.due("200", x.count(0, 0, 200), 5);
        bad("a", -1, a -> x.count(0, 0, a), -1, 201);
    }

    /** Promise 49: "NONE for others.": TREES beside those that there are. */
    static void p49_trees() {
        JetTrees x = both();
        badTrees("TREE", -1, tree -> x.count(tree, 0, 200));
        Edge.due("TREE 3", x.count(3, 0, 200), 4);
        Edge.due("all of 40", fortyJets().count(0, 0, 200), 40);
    }

    // ---- Promise 50: common

    /** Promise 50: "NONE for others.": TREES beside those that there are, on either side. */
    static void p50_trees() {
        JetTrees x = both();
        badTrees("the one", -1, tree -> x.common(tree, 0));
        badTrees("the other", -1, tree -> x.common(0, tree));
    }

    /** Promise 50, II: "KNOTS of the one that were JOINED": TRACKS are none, however alike: 0. */
    static void p50_tracksAreNone() {
        JetTrees x = alone(Edge.t(0, 0, 1));
        Edge.due("one TRACK", x.common(0, 0), 0);
        JetTrees y = fortyJets();
        Edge.due("40 TRACKS", y.common(0, 0), 0);
        y.set(0, 200);
        y.gather(1);
        Edge.due("none JOINED on one side", y.common(0, 1), 0);
        Edge.due("all JOINED", y.common(1, 1), 39);
    }

    /** Promise 50, II: "whose LEAVES are those of one of the other": a LEAF more or less is another one. */
    static void p50_leaves() {
        JetTrees x = both();
        Edge.due("KNOT 5 alone", x.common(0, 3), 1);
        Edge.due("KNOT 5 alone", x.common(3, 0), 1);
        Edge.due("all", x.common(0, 0), 3);
    }

    // ---- Promise 58: clean

    /** Promise 58: "NONE for others.": TREES beside those that there are. */
    static void p58_trees() {
        JetTrees x = both();
        badTrees("TREE", -1, tree -> x.clean(tree, 4, 10));
        Edge.due("TREE 3", x.clean(3, 4, 10), 40);
    }

    /** Promise 58: "CLEAN WEIGHT of a JET (a KNOT).": no KNOT beside those that there are, and none that is no JET. */
    static void p58_jet() {
        JetTrees x = both();
        bad("KNOT", -1, knot -> x.clean(0, knot, 10), -1, 8, 79);
        for (int knot = 0; knot < 6; knot++) {
            Edge.due("KNOT " + knot + " is no JET", x.clean(0, knot, 10), -1);
        }
        Edge.due("KNOT 6", x.clean(0, 6, 10), 200);
        Edge.due("KNOT 7", x.clean(0, 7, 10), 70);
    }

    /** Promise 58, II: "TILES of a size s (1 .. 100)". */
    static void p58_size() {
        JetTrees x = both();
        Edge.due("1", x.clean(0, 6, 1), 200);
        Edge.due("100", x.clean(0, 6, 100), 200);
        bad("size", -1, size -> x.clean(0, 6, size), 0, 101, -1);
    }

    /** One TRACK of so much WEIGHT in TREE 0, then 19 others: each in a TILE of size 100 of its own, of WEIGHT 60. */
    private static JetTrees over(int weight) {
        JetTrees x = alone(Edge.t(-200, 0, weight));
        for (int i = 1; i < 20; i++) {
            x.track(-200 + 100 * (i / 4), 100 * (i % 4), 60);
        }
        Edge.due("PEDESTAL", x.pedestal(100), 60);
        return x;
    }

    /** Promise 58, II: "0 at least": just 0, 1 above it, 1 below. */
    static void p58_noughtAtLeast() {
        Edge.due("60", over(60).clean(0, 0, 100), 0);
        Edge.due("61", over(61).clean(0, 0, 100), 1);
        Edge.due("59", over(59).clean(0, 0, 100), 0);
        Edge.due("1", over(1).clean(0, 0, 100), 0);
    }

    /** Promise 58, II: "(TRACKS as they are now)": without TRACKS, and of another EVENT, nothing lies under it. */
    static void p58_asTheyAreNow() {
        JetTrees x = over(100);
        Edge.due("60 under it", x.clean(0, 0, 100), 40);
        x.hand(1);
        Edge.due("without TRACKS", x.clean(0, 0, 100), 100);
    }

    /** Promise 58, II: "times how many TILES its LEAVES (as in the TREE) are in": one TILE once, on either side of an edge. */
    static void p58_tilesOfItsLeaves() {
        JetTrees x = Edge.treeOf(0, 200, 0, Edge.t(-1, 99, 500), Edge.t(0, 99, 500), Edge.t(0, 100, 500), Edge.t(1, 100, 500));
        Edge.due("one JET", x.tree(0, 2), 1);
        for (int t = 3; t >= 0; t--) {
            x.drop(t);
        }
        for (int i = 0; i < 20; i++) {
            x.track(-200 + 100 * (i / 4), 100 * (i % 4), 60);
        }
        Edge.due("PEDESTAL", x.pedestal(100), 60);
        Edge.due("three TILES", x.clean(0, x.jet(0, 0), 100), 2000 - 180);
    }
}
