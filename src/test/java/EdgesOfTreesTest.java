import static java.lang.Integer.MAX_VALUE;
import static java.lang.Integer.MIN_VALUE;

import java.util.function.IntToLongFunction;

/** The edges of promises 10, 20, 21, 23 to 32, 39 and 40: a test for each sentence, whose first remark says which. */
public final class EdgesOfTreesTest {
    public static void main(String[] args) {
        Edge.run(EdgesOfTreesTest.class);
    }

    private static final long ALL = (1L << 40) - 1;

    /** All TREES beside 0 .. 3, and 1 .. 3 of which there is none. */
    private static void noSuchTree(String call, long due, IntToLongFunction asked) {
        for (int bad : new int[] {-1, 1, 2, 3, 4, MIN_VALUE, MAX_VALUE}) {
            Edge.due(call + " of TREE " + bad, asked.applyAsLong(bad), due);
        }
    }

    private static void bad(String call, long due, IntToLongFunction asked, int... values) {
        for (int value : values) {
            Edge.due(call + " " + value, asked.applyAsLong(value), due);
        }
        Edge.due(call + " the least int", asked.applyAsLong(MIN_VALUE), due);
        Edge.due(call + " the greatest int", asked.applyAsLong(MAX_VALUE), due);
    }

    private static JetTrees one() {
        return Edge.treeOf(0, 10, 0, Edge.t(5, 6, 7));
    }

    /** 40 TRACKS 9 apart in ROUND: one JET by RADIUS 200. */
    private static JetTrees oneOf40() {
        JetTrees x = Edge.many(40);
        x.set(1, 0);
        x.set(0, 200);
        x.gather(0);
        return x;
    }

    /** 40 TRACKS 9 apart in ROUND: 40 JETS by RADIUS 9. */
    private static JetTrees allApart() {
        JetTrees x = Edge.many(40);
        x.set(1, 0);
        x.set(0, 9);
        x.gather(0);
        return x;
    }

    private static void row(String call, IntToLongFunction asked, long... due) {
        Edge.due(call + " how many", asked.applyAsLong(-1), due.length);
        for (int i = 0; i < due.length; i++) {
            Edge.due(call + " the " + i + ".", asked.applyAsLong(i), due[i]);
        }
        Edge.due(call + " behind the last", asked.applyAsLong(due.length), -1);
    }

    // ---- Promise 10: keep

    /** Promise 10: "KEPT, as 0 .. 3: how many sets." */
    static void p10_as() {
        JetTrees x = Edge.five();
        Edge.due("keep(0, 0, 2)", x.keep(0, 0, 2), 2);
        Edge.due("keep(3, 0, 3)", x.keep(3, 0, 3), 3);
        Edge.due("kept(0, -1)", x.kept(0, -1), 2);
        Edge.due("kept(1, -1)", x.kept(1, -1), -1);
        Edge.due("kept(3, -1)", x.kept(3, -1), 3);
        bad("as", -1, as -> x.keep(as, 0, 2), -1, 4);
    }

    /** Promise 10: "NONE for others (no such TREE, CUT).": no such TREE. */
    static void p10_tree() {
        JetTrees x = Edge.five();
        noSuchTree("keep", -1, tree -> x.keep(0, tree, 2));
        x.gather(3);
        Edge.due("keep(0, 3, 2)", x.keep(0, 3, 2), 2);
    }

    /** Promise 10: "NONE for others (no such TREE, CUT).": never so many, as there are two JETS. */
    static void p10_neverSoMany() {
        JetTrees x = Edge.five();
        Edge.due("keep(0, 0, 2)", x.keep(0, 0, 2), 2);
        Edge.due("keep(0, 0, 1)", x.keep(0, 0, 1), -1);
        Edge.due("kept(0, -1): that one stays", x.kept(0, -1), 2);
    }

    /** Promise 10, promise 30: "A CUT to n (1 .. 40)": n 1 and 40, not 0 and 41. */
    static void p10_n() {
        JetTrees x = oneOf40();
        Edge.due("n 1", x.keep(0, 0, 1), 1);
        Edge.due("all TRACKS", x.kept(0, 0), ALL);
        Edge.due("n 40", x.keep(1, 0, 40), 40);
        Edge.due("the last TRACK", x.kept(1, 39), 1L << 39);
        bad("n", -1, n -> x.keep(0, 0, n), 0, 41, -1);
    }

    /** Promise 10, II: "as soon as there are n or fewer": n above the TRACKS that there are: each by itself. */
    static void p10_moreThanTracks() {
        JetTrees x = Edge.five();
        Edge.due("keep(0, 0, 40)", x.keep(0, 0, 40), 5);
        Edge.due("keep(0, 0, 6)", x.keep(0, 0, 6), 5);
        Edge.due("keep(0, 0, 5)", x.keep(0, 0, 5), 5);
        Edge.due("keep(0, 0, 4)", x.keep(0, 0, 4), 4);
    }

    /** Promise 10, II: "(JETS that went by then count, too)": their LEAVES are KEPT as well. */
    static void p10_jetsAreKept() {
        JetTrees x = early();
        Edge.due("keep(0, 0, 2)", x.keep(0, 0, 2), 2);
        row("kept(0)", i -> x.kept(0, i), 7, 24);
        Edge.due("keep(1, 0, 3)", x.keep(1, 0, 3), 3);
        row("kept(1)", i -> x.kept(1, i), 8, 16, 7);
    }

    /** Promise 10, Terms: "(in the place of what was kept so)": fewer sets where there were more. */
    static void p10_inThePlace() {
        JetTrees x = Edge.five();
        x.keep(2, 0, 5);
        x.keep(2, 0, 2);
        row("kept(2)", i -> x.kept(2, i), 7, 24);
    }

    /** Promise 10, Terms: "KEPT, a CUT to n of a TREE": it stays as it was without that TREE. */
    static void p10_staysWithoutItsTree() {
        JetTrees x = Edge.five();
        x.keep(0, 0, 2);
        x.drop(0);
        x.gather(0);
        x.free(0);
        row("kept(0)", i -> x.kept(0, i), 7, 24);
    }

    /** Promise 10: "NONE for others (no such TREE, CUT).": all is as it was. */
    static void p10_refusedLeavesAll() {
        Edge.leavesAll(x -> {
            x.keep(0, 0, 1);
            x.keep(0, 0, 0);
            x.keep(0, 0, 41);
            x.keep(0, 3, 2);
            x.keep(4, 0, 2);
            x.keep(-1, 0, 2);
        });
    }

    // ---- Promise 20: tree

    /** Promise 20: "-2 for others.": TREES beside 0 .. 3, and those that aren't. */
    static void p20_tree() {
        JetTrees x = Edge.five();
        noSuchTree("tree", -2, tree -> x.tree(tree, 0));
        x.gather(3);
        Edge.due("tree(3, 0)", x.tree(3, 0), 8);
    }

    /** Promise 20: "0 KNOTS" .. "6 SUMS. -2 for others.": the first and the last that can be asked for. */
    static void p20_what() {
        JetTrees x = Edge.treeOf(1, 200, 1, Edge.t(0, 0, 1));
        Edge.due("tree(0, 0)", x.tree(0, 0), 1);
        Edge.due("tree(0, 6)", x.tree(0, 6), 1);
        bad("what", -2, what -> x.tree(0, what), -1, 7);
    }

    /** Promise 20: "0 KNOTS, 1 STEPS, 2 JETS, 3 TRACKS": of one TRACK, and of 40. */
    static void p20_leastAndMost() {
        JetTrees x = one();
        JetTrees y = oneOf40();
        JetTrees z = allApart();
        int[] least = {1, 1, 1, 1};
        int[] most = {79, 40, 1, 40};
        int[] apart = {40, 40, 40, 40};
        for (int what = 0; what < 4; what++) {
            Edge.due("one: tree(0, " + what + ")", x.tree(0, what), least[what]);
            Edge.due("40: tree(0, " + what + ")", y.tree(0, what), most[what]);
            Edge.due("apart: tree(0, " + what + ")", z.tree(0, what), apart[what]);
        }
    }

    /** Promise 20: "4 RADIUS, 5 POWER, 6 SUMS", Terms: "as they were": the least and the greatest, whatever is set then. */
    static void p20_asTheyWere() {
        JetTrees x = Edge.treeOf(-1, 1, 0, Edge.t(0, 0, 1));
        JetTrees y = Edge.treeOf(1, 200, 1, Edge.t(0, 0, 1));
        x.set(0, 50);
        x.set(1, 0);
        y.set(0, 50);
        y.set(2, 0);
        Edge.due("RADIUS 1", x.tree(0, 4), 1);
        Edge.due("POWER -1", x.tree(0, 5), -1);
        Edge.due("SUMS 0", x.tree(0, 6), 0);
        Edge.due("RADIUS 200", y.tree(0, 4), 200);
        Edge.due("POWER 1", y.tree(0, 5), 1);
        Edge.due("SUMS 1", y.tree(0, 6), 1);
    }

    // ---- Promise 21: knot

    /** Promise 21: "-1000 for others.": TREES beside 0 .. 3, and those that aren't. */
    static void p21_tree() {
        JetTrees x = Edge.five();
        noSuchTree("knot", -1000, tree -> x.knot(tree, 0, 0));
    }

    /** Promise 21: "-1000 for others.": the first and the last KNOT are answered, none beside them. */
    static void p21_knot() {
        JetTrees x = oneOf40();
        Edge.due("knot(0, 0, 2)", x.knot(0, 0, 2), 1);
        Edge.due("knot(0, 78, 2)", x.knot(0, 78, 2), 820);
        bad("KNOT", -1000, knot -> x.knot(0, knot, 0), -1, 79, 80);
    }

    /** Promise 21: "0 ACROSS" .. "7 by which STEP it went. -1000 for others." */
    static void p21_what() {
        JetTrees x = Edge.treeOf(0, 10, 0, Edge.t(-200, 0, 1), Edge.t(200, 0, 1));
        Edge.due("knot(0, 0, 0)", x.knot(0, 0, 0), -200);
        Edge.due("knot(0, 1, 7)", x.knot(0, 1, 7), 1);
        bad("what", -1000, what -> x.knot(0, 0, what), -1, 8);
    }

    /** Promise 21: "3 the first part, 4 the second (NONE: a TRACK)". */
    static void p21_partsOfATrack() {
        JetTrees x = Edge.five();
        Edge.due("knot(0, 4, 3)", x.knot(0, 4, 3), -1);
        Edge.due("knot(0, 4, 4)", x.knot(0, 4, 4), -1);
        Edge.due("knot(0, 5, 3)", x.knot(0, 5, 3), 0);
        Edge.due("knot(0, 5, 4)", x.knot(0, 5, 4), 1);
    }

    /** Promise 21: "5 the KNOT it is a part of (NONE: a JET)": a TRACK that is a JET, too. */
    static void p21_partOf() {
        JetTrees x = Edge.five();
        Edge.due("knot(0, 5, 5)", x.knot(0, 5, 5), 6);
        Edge.due("knot(0, 6, 5)", x.knot(0, 6, 5), -1);
        Edge.due("knot(0, 7, 5)", x.knot(0, 7, 5), -1);
        Edge.due("a TRACK alone", one().knot(0, 0, 5), -1);
    }

    /** Promise 21: "6 by which STEP it was JOINED (NONE: a TRACK)": the first STEP is 0. */
    static void p21_joinedBy() {
        JetTrees x = Edge.five();
        Edge.due("knot(0, 4, 6)", x.knot(0, 4, 6), -1);
        Edge.due("knot(0, 5, 6)", x.knot(0, 5, 6), 0);
        Edge.due("the last JOINED of 40", oneOf40().knot(0, 78, 6), 38);
    }

    /** Promise 21: "7 by which STEP it went.": into another one or to the beam, at the first STEP and at the last. */
    static void p21_wentBy() {
        JetTrees x = Edge.five();
        Edge.due("knot(0, 0, 7)", x.knot(0, 0, 7), 0);
        Edge.due("knot(0, 6, 7)", x.knot(0, 6, 7), 3);
        Edge.due("knot(0, 7, 7)", x.knot(0, 7, 7), 4);
        Edge.due("the JET of 40", oneOf40().knot(0, 78, 7), 39);
        Edge.due("a TRACK alone", one().knot(0, 0, 7), 0);
    }

    private static JetTrees joined(int sums, int[] one, int[] other) {
        return Edge.treeOf(0, 200, sums, one, other);
    }

    private static long across(int[] one, int[] other) {
        return joined(0, one, other).knot(0, 2, 0);
    }

    private static long round(int[] one, int[] other) {
        return joined(0, one, other).knot(0, 2, 1);
    }

    /** Promise 21, Terms: "by the WEIGHT, downward": ACROSS below 0, between whole ones and just on one. */
    static void p21_acrossDownward() {
        Edge.due("-1 and 0", across(Edge.t(-1, 0, 1), Edge.t(0, 0, 1)), -1);
        Edge.due("-2 and 0", across(Edge.t(-2, 0, 1), Edge.t(0, 0, 1)), -1);
        Edge.due("0 and 1", across(Edge.t(0, 0, 1), Edge.t(1, 0, 1)), 0);
        Edge.due("-200 and -199", across(Edge.t(-200, 0, 1), Edge.t(-199, 0, 9999)), -200);
        Edge.due("199 and 200", across(Edge.t(199, 0, 1), Edge.t(200, 0, 9999)), 199);
        Edge.due("-200 twice", across(Edge.t(-200, 0, 9999), Edge.t(-200, 0, 9999)), -200);
        Edge.due("200 twice", across(Edge.t(200, 0, 9999), Edge.t(200, 0, 9999)), 200);
    }

    /** Promise 21, Terms: "the lesser way ROUND from the first to the second, negative against the numbers". */
    static void p21_roundAgainstTheNumbers() {
        Edge.due("10 back by 5", round(Edge.t(0, 100, 1), Edge.t(1, 90, 1)), 95);
        Edge.due("11 back, downward", round(Edge.t(0, 100, 1), Edge.t(1, 89, 1)), 94);
        Edge.due("11 on, downward", round(Edge.t(0, 89, 1), Edge.t(1, 100, 1)), 94);
    }

    /** Promise 21, Terms: "of 180 positive": and of 179 and 181 the lesser way. */
    static void p21_roundOf180() {
        Edge.due("0 to 180", round(Edge.t(0, 0, 1), Edge.t(1, 180, 1)), 90);
        Edge.due("180 to 0", round(Edge.t(0, 180, 1), Edge.t(1, 0, 1)), 270);
        Edge.due("359 to 179", round(Edge.t(0, 359, 1), Edge.t(1, 179, 1)), 89);
        Edge.due("0 to 179", round(Edge.t(0, 0, 1), Edge.t(1, 179, 1)), 89);
        Edge.due("0 to 181", round(Edge.t(0, 0, 1), Edge.t(1, 181, 1)), 270);
        Edge.due("181 to 0", round(Edge.t(0, 181, 1), Edge.t(1, 0, 1)), 270);
    }

    /** Promise 21, Terms: "by the WEIGHT, downward, mod 360": past 359 and below 0. */
    static void p21_roundPastTheLastDegree() {
        Edge.due("359 to 1", round(Edge.t(0, 359, 1), Edge.t(1, 1, 1)), 0);
        Edge.due("1 to 359", round(Edge.t(0, 1, 1), Edge.t(1, 359, 1)), 0);
        Edge.due("350 to 20", round(Edge.t(0, 350, 1), Edge.t(1, 20, 2)), 10);
        Edge.due("20 to 350", round(Edge.t(0, 20, 1), Edge.t(1, 350, 2)), 0);
        Edge.due("0 to 359, downward", round(Edge.t(0, 0, 9999), Edge.t(1, 359, 1)), 359);
        Edge.due("359 to 0, downward", round(Edge.t(0, 359, 1), Edge.t(1, 0, 1)), 359);
        Edge.due("10 to 350", round(Edge.t(0, 10, 1), Edge.t(1, 350, 9)), 352);
    }

    /** Promise 21, Terms: "JOINED, two KNOTS": with WEIGHT 9999 both, and with 1 beside 9999. */
    static void p21_weights() {
        JetTrees x = joined(0, Edge.t(-200, 0, 9999), Edge.t(-100, 100, 9999));
        Edge.due("WEIGHT both together", x.knot(0, 2, 2), 19998);
        Edge.due("ACROSS", x.knot(0, 2, 0), -150);
        Edge.due("ROUND", x.knot(0, 2, 1), 50);
        Edge.due("1 beside 9999", across(Edge.t(-100, 0, 9999), Edge.t(0, 0, 1)), -100);
    }

    /** Promise 21, Terms: "PLACE of the heavier one, of like ones the first's." */
    static void p21_sums1() {
        int[] first = Edge.t(-5, 7, 10);
        Edge.due("like ones", joined(1, Edge.t(5, 9, 10), first).knot(0, 2, 0), -5);
        Edge.due("like ones", joined(1, Edge.t(5, 9, 10), first).knot(0, 2, 1), 7);
        Edge.due("the first lighter by 1", joined(1, first, Edge.t(5, 9, 11)).knot(0, 2, 0), 5);
        Edge.due("the first heavier by 1", joined(1, first, Edge.t(5, 9, 9)).knot(0, 2, 0), -5);
        Edge.due("WEIGHT both together", joined(1, first, Edge.t(5, 9, 11)).knot(0, 2, 2), 21);
    }

    private static void first(String what, int due, int[] one, int[] other) {
        JetTrees x = joined(0, one, other);
        Edge.due(what + ": the first", x.knot(0, 2, 3), due);
        Edge.due(what + ": the second", x.knot(0, 2, 4), 1 - due);
    }

    /** Promise 21, Terms: "The first of two: the one that comes ahead: the lesser ACROSS". */
    static void p21_firstByAcross() {
        first("-1 and 0", 1, Edge.t(0, 0, 1), Edge.t(-1, 5, 9));
        first("-200 and -199", 0, Edge.t(-200, 5, 9), Edge.t(-199, 0, 1));
    }

    /** Promise 21, Terms: "of like ones the lesser ROUND": by its number, 0 is ahead of 359. */
    static void p21_firstByRound() {
        first("0 and 359", 1, Edge.t(3, 359, 1), Edge.t(3, 0, 9));
        first("4 and 5", 0, Edge.t(3, 4, 9), Edge.t(3, 5, 1));
    }

    /** Promise 21, Terms: "then the lesser WEIGHT". */
    static void p21_firstByWeight() {
        first("8 and 9", 1, Edge.t(3, 3, 9), Edge.t(3, 3, 8));
        first("8 and 9", 0, Edge.t(3, 3, 8), Edge.t(3, 3, 9));
    }

    /** Promise 21, Terms: "then the lower number.": all else like. */
    static void p21_firstByNumber() {
        first("like ones", 0, Edge.t(3, 3, 9), Edge.t(3, 3, 9));
    }

    /** Promise 21, Terms: "numbered behind all: TRACKS have their numbers, then the KNOTS as they are JOINED". */
    static void p21_numbers() {
        JetTrees x = oneOf40();
        for (int k = 40; k < 79; k++) {
            Edge.due("KNOT " + k + " by STEP", x.knot(0, k, 6), k - 40);
        }
        Edge.due("KNOT 39 is a TRACK", x.knot(0, 39, 6), -1);
    }

    // ---- Promise 23: step

    /** Promise 23: "-2 for others.": TREES beside 0 .. 3, and those that aren't. */
    static void p23_tree() {
        JetTrees x = Edge.five();
        noSuchTree("step", -2, tree -> x.step(tree, 0, 0));
    }

    /** Promise 23: "-2 for others.": the first and the last STEP are answered, none beside them. */
    static void p23_step() {
        JetTrees x = Edge.five();
        Edge.due("step(0, 0, 2)", x.step(0, 0, 2), 5);
        Edge.due("step(0, 4, 0)", x.step(0, 4, 0), 7);
        bad("STEP", -2, step -> x.step(0, step, 0), -1, 5, 40);
        JetTrees y = oneOf40();
        Edge.due("the last of 40", y.step(0, 39, 0), 78);
        Edge.due("behind it", y.step(0, 40, 0), -2);
    }

    /** Promise 23: "0 the first, 1 the second (NONE: the beam), 2 the KNOT that came (NONE). -2 for others." */
    static void p23_what() {
        JetTrees x = Edge.five();
        Edge.due("step(0, 0, 0)", x.step(0, 0, 0), 0);
        Edge.due("step(0, 0, 1)", x.step(0, 0, 1), 1);
        Edge.due("step(0, 0, 2)", x.step(0, 0, 2), 5);
        bad("what", -2, what -> x.step(0, 0, what), -1, 3);
    }

    /** Promise 23: "1 the second (NONE: the beam), 2 the KNOT that came (NONE)": one alone. */
    static void p23_theBeam() {
        JetTrees x = one();
        Edge.due("step(0, 0, 0)", x.step(0, 0, 0), 0);
        Edge.due("step(0, 0, 1)", x.step(0, 0, 1), -1);
        Edge.due("step(0, 0, 2)", x.step(0, 0, 2), -1);
    }

    private static void taken(JetTrees x, int step, int first, int second) {
        Edge.due("step(0, " + step + ", 0)", x.step(0, step, 0), first);
        Edge.due("step(0, " + step + ", 1)", x.step(0, step, 1), second);
    }

    /** Promise 23, Terms: "of like ones (fractions, exactly) a one alone first": by each POWER. */
    static void p23_aloneFirst() {
        for (int power = -1; power <= 1; power++) {
            taken(Edge.treeOf(power, 5, 0, Edge.t(3, 4, 7), Edge.t(0, 0, 7)), 0, 1, -1);
            taken(Edge.treeOf(power, 6, 0, Edge.t(3, 4, 7), Edge.t(0, 0, 7)), 0, 1, 0);
        }
    }

    /** Promise 23, Terms: "then by which comes ahead of the first ones": of ones alone, and of twos. */
    static void p23_firstOnesAhead() {
        taken(Edge.treeOf(0, 1, 0, Edge.t(9, 0, 1), Edge.t(-9, 0, 1), Edge.t(0, 0, 1)), 0, 1, -1);
        taken(Edge.treeOf(0, 9, 0, Edge.t(50, 0, 1), Edge.t(52, 0, 1), Edge.t(-50, 0, 1), Edge.t(-52, 0, 1)), 0, 3, 2);
    }

    /** Promise 23, Terms: "then of the second ones": the first one is the same. */
    static void p23_secondOnesAhead() {
        taken(Edge.treeOf(0, 9, 0, Edge.t(0, 0, 1), Edge.t(0, 2, 1), Edge.t(0, 358, 1)), 0, 0, 1);
        taken(Edge.treeOf(0, 9, 0, Edge.t(2, 0, 1), Edge.t(0, 0, 1), Edge.t(0, 2, 1)), 0, 1, 2);
    }

    /** Promise 23, Terms: "of like ones (fractions, exactly)": unlike by a trillionth of them, and just like. */
    static void p23_fractionsExactly() {
        // 19453 by 9727 times itself is less than 19457 by 9728 times itself, by 1 if they are taken across.
        taken(Edge.treeOf(-1, 200, 0, Edge.t(-200, 0, 9728), Edge.t(-169, 136, 1), Edge.t(100, 0, 9727),
            Edge.t(142, 133, 1)), 0, 2, 3);
        // 8 by 36 and 2 by 9 are like: the one ahead, whichever was told first.
        taken(Edge.treeOf(-1, 200, 0, Edge.t(50, 0, 3), Edge.t(51, 1, 3), Edge.t(0, 0, 6), Edge.t(2, 2, 6)), 0, 2, 3);
        taken(Edge.treeOf(-1, 200, 0, Edge.t(0, 0, 3), Edge.t(1, 1, 3), Edge.t(50, 0, 6), Edge.t(52, 2, 6)), 0, 0, 1);
    }

    /** Promise 23, Terms: "KNOTS (TRACKS, or such as were joined)": a KNOT and a TRACK all alike: the lower number. */
    static void p23_knotBehindTrack() {
        // 0 and 1 are JOINED on the very PLACE of 2, with its WEIGHT.
        JetTrees x = Edge.treeOf(0, 1, 0, Edge.t(5, 5, 10), Edge.t(5, 5, 10), Edge.t(5, 5, 20));
        taken(x, 0, 0, 1);
        taken(x, 1, 2, 3);
    }

    // ---- Promises 24 and 25: up, down

    /** Promise 24: "NONE for others.": TREES and STEPS beside those that there are. */
    static void p24_others() {
        JetTrees x = Edge.five();
        noSuchTree("up", -1, tree -> x.up(tree, 0));
        bad("STEP", -1, step -> x.up(0, step), -1, 5, 40);
        Edge.due("up(0, 0)", x.up(0, 0), 9);
        Edge.due("up(0, 4)", x.up(0, 4), 100);
    }

    /** Promise 25: "NONE for others.": TREES and STEPS beside those that there are. */
    static void p25_others() {
        JetTrees x = Edge.five();
        noSuchTree("down", -1, tree -> x.down(tree, 0));
        bad("STEP", -1, step -> x.down(0, step), -1, 5, 40);
        Edge.due("down(0, 0)", x.down(0, 0), 1);
        Edge.due("down(0, 4)", x.down(0, 4), 1);
    }

    /** Promise 24: "MEASURE of a STEP: up, in lowest terms.": the greatest, by POWER 1. */
    static void p24_theGreatest() {
        JetTrees x = new JetTrees();
        x.set(1, 1);
        x.set(0, 200);
        for (int i = 0; i < 40; i++) {
            x.track(i < 20 ? 1 : 200, 0, 9999);
        }
        Edge.due("one JET", x.gather(0), 1);
        Edge.due("both halves", x.up(0, 38), 199L * 199 * 199980 * 199980);
        Edge.due("the beam", x.up(0, 39), 40000L * 399960 * 399960);
    }

    /** Promise 24: "MEASURE of a STEP: up, in lowest terms.": the least, on one PLACE. */
    static void p24_nothing() {
        for (int power = -1; power <= 1; power++) {
            Edge.due("up", Edge.treeOf(power, 9, 0, Edge.t(1, 1, 5), Edge.t(1, 1, 6)).up(0, 0), 0);
        }
    }

    /** Promise 25: "(1 of a whole one)": of 0 as well, and of POWER 0 and 1 always. */
    static void p25_ofAWholeOne() {
        for (int power = -1; power <= 1; power++) {
            JetTrees x = Edge.treeOf(power, 9, 0, Edge.t(1, 1, 5), Edge.t(1, 1, 6));
            Edge.due("of 0", x.down(0, 0), 1);
            Edge.due("of the beam", x.down(0, 1), power < 0 ? 121 : 1);
        }
        JetTrees y = Edge.treeOf(-1, 200, 0, Edge.t(1, 1, 100));
        Edge.due("up: 40000 by 10000", y.up(0, 0), 4);
        Edge.due("down: 40000 by 10000", y.down(0, 0), 1);
    }

    /** Promise 25: "MEASURE of a STEP: down, in lowest terms": the greatest of one TRACK, and of 40. */
    static void p25_theGreatest() {
        JetTrees x = Edge.treeOf(-1, 1, 0, Edge.t(1, 1, 9999));
        Edge.due("up", x.up(0, 0), 1);
        Edge.due("down", x.down(0, 0), 9999L * 9999);
        JetTrees y = new JetTrees();
        y.set(0, 1);
        for (int i = 0; i < 40; i++) {
            y.track(0, 0, 9999);
        }
        Edge.due("one JET", y.gather(0), 1);
        Edge.due("up", y.up(0, 39), 1);
        Edge.due("down", y.down(0, 39), 399960L * 399960);
    }

    /** Promise 24, Terms: "POWER 1: SQUARE times the lesser WEIGHT times itself". */
    static void p24_power1() {
        Edge.due("9 and 10", Edge.treeOf(1, 200, 0, Edge.t(0, 0, 10), Edge.t(1, 1, 9)).up(0, 0), 2 * 81);
        Edge.due("alone", Edge.treeOf(1, 200, 0, Edge.t(0, 0, 10)).up(0, 0), 40000 * 100);
    }

    /** Promise 24, Terms: "0: SQUARE; -1:" and "0: RADIUS times itself;": by POWER 0 no WEIGHT counts, the greatest neither. */
    static void p24_power0() {
        JetTrees x = Edge.treeOf(0, 200, 0, Edge.t(0, 0, 9999), Edge.t(3, 4, 1));
        Edge.due("both", x.up(0, 0), 25);
        Edge.due("alone", x.up(0, 1), 40000);
        Edge.due("alone, RADIUS 1", Edge.treeOf(0, 1, 0, Edge.t(0, 0, 9999)).up(0, 0), 1);
    }

    /** Promise 24, Terms: "SQUARE by the greater WEIGHT times itself (a fraction)". */
    static void p24_powerMinus1() {
        JetTrees x = Edge.treeOf(-1, 200, 0, Edge.t(0, 0, 10), Edge.t(1, 1, 9));
        Edge.due("up: 2 by 100", x.up(0, 0), 1);
        Edge.due("down: 2 by 100", x.down(0, 0), 50);
        Edge.due("alone: 40000 by 361", x.down(0, 1), 361);
    }

    // ---- Promise 26: leaves

    /** Promise 26: "0 for others.": TREES and KNOTS beside those that there are. */
    static void p26_others() {
        JetTrees x = Edge.five();
        noSuchTree("leaves", 0, tree -> x.leaves(tree, 0));
        bad("KNOT", 0, knot -> x.leaves(0, knot), -1, 8, 79);
    }

    /** Promise 26, II: "LEAVES of a KNOT: TRACKS in it (bits of a long)": of the first, the last, all 40. */
    static void p26_bits() {
        JetTrees x = oneOf40();
        Edge.due("TRACK 0", x.leaves(0, 0), 1);
        Edge.due("TRACK 39", x.leaves(0, 39), 1L << 39);
        Edge.due("all", x.leaves(0, 78), ALL);
        Edge.due("behind the last KNOT", x.leaves(0, 79), 0);
    }

    // ---- Promises 27 and 28: jet, jetOf

    /** Promise 27: "NONE: there is none, and for others.": of two JETS the third; i below 0. */
    static void p27_i() {
        JetTrees x = Edge.five();
        Edge.due("jet(0, 0)", x.jet(0, 0), 6);
        Edge.due("jet(0, 1)", x.jet(0, 1), 7);
        bad("i", -1, i -> x.jet(0, i), -1, -2, 2, 40);
        noSuchTree("jet", -1, tree -> x.jet(tree, 0));
    }

    /** Promise 27: "The i-th of JETS by WEIGHT": of 40 the first is the heaviest, the last the lightest. */
    static void p27_of40() {
        JetTrees x = allApart();
        for (int i = 0; i < 40; i++) {
            Edge.due("jet(0, " + i + ")", x.jet(0, i), 39 - i);
        }
        Edge.due("jet(0, 40)", x.jet(0, 40), -1);
    }

    /** Promise 27, II: "of like ones as they come ahead": by ACROSS, ROUND, number. */
    static void p27_likeOnes() {
        JetTrees x = Edge.treeOf(0, 1, 0, Edge.t(50, 0, 5), Edge.t(0, 90, 5), Edge.t(0, 45, 5), Edge.t(0, 45, 4));
        Edge.due("2 and 3 are one KNOT", x.tree(0, 2), 3);
        JetTrees y = Edge.treeOf(0, 1, 0, Edge.t(50, 0, 5), Edge.t(0, 90, 5), Edge.t(0, 45, 5), Edge.t(0, 0, 6));
        row("jet", i -> i < 0 ? y.tree(0, 2) : y.jet(0, i), 3, 2, 1, 0);
    }

    /** Promise 28: "NONE for others.": TRACKS beside the first and the last; a KNOT that was JOINED is no TRACK. */
    static void p28_track() {
        JetTrees x = Edge.five();
        Edge.due("jetOf(0, 0)", x.jetOf(0, 0), 6);
        Edge.due("jetOf(0, 4)", x.jetOf(0, 4), 7);
        bad("TRACK", -1, track -> x.jetOf(0, track), -1, 5, 6, 7, 8, 40);
        noSuchTree("jetOf", -1, tree -> x.jetOf(tree, 0));
        Edge.due("the last of 40", oneOf40().jetOf(0, 39), 78);
        Edge.due("a TRACK that is a JET", allApart().jetOf(0, 39), 39);
    }

    // ---- Promise 29: left

    /** Promise 29: "LEFT behind n STEPS": behind none all TRACKS, behind all no KNOT. */
    static void p29_noneAndAll() {
        JetTrees x = Edge.five();
        row("left 0", i -> x.left(0, 0, i), 0, 1, 2, 3, 4);
        row("left 5", i -> x.left(0, 5, i));
    }

    /** Promise 29: "NONE: there is none, and for others.": n below 0, or more STEPS than there are. */
    static void p29_n() {
        JetTrees x = Edge.five();
        bad("n, how many", -1, n -> x.left(0, n, -1), -1, 6, 40);
        bad("n, the first", -1, n -> x.left(0, n, 0), -1, 6, 40);
        noSuchTree("left", -1, tree -> x.left(tree, 0, -1));
        noSuchTree("left", -1, tree -> x.left(tree, 0, 0));
    }

    /** Promise 29: "how many (i NONE); the i-th by numbers. NONE: there is none": i beside those that there are. */
    static void p29_i() {
        JetTrees x = Edge.five();
        row("left 1", i -> x.left(0, 1, i), 2, 3, 4, 5);
        bad("i", -1, i -> x.left(0, 1, i), -2, 4, 40);
        JetTrees y = oneOf40();
        Edge.due("the 40th", y.left(0, 0, 39), 39);
        Edge.due("the 41st", y.left(0, 0, 40), -1);
    }

    /** Promise 29, II: "KNOTS that are neither in another one by then nor gone to the beam": just by that STEP. */
    static void p29_byThen() {
        JetTrees x = Edge.five();
        row("left 3", i -> x.left(0, 3, i), 6, 7);
        row("left 4", i -> x.left(0, 4, i), 7);
    }

    // ---- Promise 30: cut

    /** A JET goes ahead of the last two that are JOINED: KNOT 6 by STEP 2, 3 and 4 are KNOT 7 by STEP 3. */
    private static JetTrees early() {
        JetTrees x = Edge.treeOf(-1, 9, 0, Edge.t(0, 0, 9999), Edge.t(3, 0, 50), Edge.t(0, 4, 50),
            Edge.t(200, 100, 9), Edge.t(200, 108, 10));
        Edge.due("KNOT 6 goes to the beam", x.step(0, 2, 1), -1);
        Edge.due("then 3 and 4 are JOINED", x.step(0, 3, 2), 7);
        return x;
    }

    /** Promise 30: "A CUT to n (1 .. 40)". */
    static void p30_n() {
        JetTrees x = oneOf40();
        row("n 1", i -> x.cut(0, 1, i), 78);
        Edge.due("n 40", x.cut(0, 40, -1), 40);
        Edge.due("n 40, the last", x.cut(0, 40, 39), 39);
        bad("n, how many", -1, n -> x.cut(0, n, -1), 0, 41, -1);
        bad("n, the first", -1, n -> x.cut(0, n, 0), 0, 41, -1);
    }

    /** Promise 30, II: "those (never so many: none)": fewer than there are JETS. */
    static void p30_neverSoMany() {
        JetTrees x = Edge.five();
        row("n 2", i -> x.cut(0, 2, i), 6, 7);
        Edge.due("n 1", x.cut(0, 1, -1), -1);
        Edge.due("n 1", x.cut(0, 1, 0), -1);
        JetTrees y = allApart();
        Edge.due("n 39 of 40 JETS", y.cut(0, 39, -1), -1);
        Edge.due("n 40 of 40 JETS", y.cut(0, 40, -1), 40);
    }

    /** Promise 30, II: "LEFT as soon as there are n or fewer": n above the TRACKS that there are. */
    static void p30_orFewer() {
        JetTrees x = Edge.five();
        row("n 40", i -> x.cut(0, 40, i), 0, 1, 2, 3, 4);
        row("n 6", i -> x.cut(0, 6, i), 0, 1, 2, 3, 4);
        row("n 5", i -> x.cut(0, 5, i), 0, 1, 2, 3, 4);
        row("n 4", i -> x.cut(0, 4, i), 2, 3, 4, 5);
        row("one TRACK", i -> one().cut(0, 1, i), 0);
    }

    /** Promise 30, II: "(JETS that went by then count, too)" and "(JETS among them)". */
    static void p30_jetsCount() {
        JetTrees x = early();
        row("n 3", i -> x.cut(0, 3, i), 3, 4, 6);
        row("n 2", i -> x.cut(0, 2, i), 6, 7);
        Edge.due("n 1", x.cut(0, 1, -1), -1);
    }

    /** Promise 30: "how many (i NONE), the i-th by numbers (JETS among them). NONE: there is none, and for others." */
    static void p30_i() {
        JetTrees x = Edge.five();
        bad("i", -1, i -> x.cut(0, 3, i), -2, 3, 40);
        noSuchTree("cut", -1, tree -> x.cut(tree, 2, -1));
        noSuchTree("cut", -1, tree -> x.cut(tree, 2, 0));
    }

    // ---- Promise 31: cutBy

    /** Promise 31: "(up 0 or more, down 1 or more)". */
    static void p31_mark() {
        JetTrees x = Edge.five();
        Edge.due("up 0", x.cutBy(0, 0, 1, -1), 5);
        Edge.due("up the greatest", x.cutBy(0, MAX_VALUE, 1, -1), 2);
        Edge.due("down the greatest", x.cutBy(0, MAX_VALUE, MAX_VALUE, -1), 5);
        for (int up : new int[] {-1, MIN_VALUE}) {
            Edge.due("up " + up, x.cutBy(0, up, 1, -1), -1);
            Edge.due("up " + up, x.cutBy(0, up, 1, 0), -1);
        }
        for (int down : new int[] {0, -1, MIN_VALUE}) {
            Edge.due("down " + down, x.cutBy(0, 9, down, -1), -1);
            Edge.due("down " + down, x.cutBy(0, 9, down, 0), -1);
        }
    }

    /** Promise 31, II: "ahead of the first one whose MEASURE is above it": just like it isn't above. */
    static void p31_justTheMark() {
        JetTrees x = Edge.five();
        row("8", i -> x.cutBy(0, 8, 1, i), 0, 1, 2, 3, 4);
        row("9", i -> x.cutBy(0, 9, 1, i), 2, 3, 4, 5);
        row("17", i -> x.cutBy(0, 17, 1, i), 3, 4, 6);
        row("25", i -> x.cutBy(0, 25, 1, i), 6, 7);
        row("a little less than 9", i -> x.cutBy(0, 899999999, 100000000, i), 0, 1, 2, 3, 4);
    }

    /** Promise 31, II: "A CUT by a mark (a fraction, up by down)": not in lowest terms, and of MEASURES that are fractions. */
    static void p31_fractions() {
        JetTrees x = Edge.treeOf(-1, 40, 0, Edge.t(0, 0, 7777), Edge.t(3, 4, 1));
        int down = 7777 * 7777;
        row("just so", i -> x.cutBy(0, 25, down, i), 2);
        row("just so, up and down twice as much", i -> x.cutBy(0, 50, 2 * down, i), 2);
        row("a little less", i -> x.cutBy(0, 25, down + 1, i), 0, 1);
        row("a little more", i -> x.cutBy(0, 25, down - 1, i), 2);
    }

    /** Promise 31, II: "whose MEASURE is above it": 25 by 4, beside marks that are less, like it and more by ever so little. */
    static void p31_besideAFraction() {
        JetTrees x = Edge.treeOf(-1, 40, 0, Edge.t(0, 0, 2), Edge.t(3, 4, 1));
        Edge.due("up", x.up(0, 0), 25);
        Edge.due("down", x.down(0, 0), 4);
        int[][] less = {{6, 1}, {5, 1}, {31, 5}, {37, 6}, {81, 13}, {499999, 80000}, {249, 40}, {2147483643, 343597383}};
        for (int[] mark : less) {
            row(mark[0] + " by " + mark[1], i -> x.cutBy(0, mark[0], mark[1], i), 0, 1);
        }
        int[][] notLess = {{25, 4}, {50, 8}, {7, 1}, {13, 2}, {19, 3}, {44, 7}, {500001, 80000}, {251, 40},
            {2147483644, 343597383}};
        for (int[] mark : notLess) {
            row(mark[0] + " by " + mark[1], i -> x.cutBy(0, mark[0], mark[1], i), 2);
        }
        // A whole MEASURE beside marks that aren't.
        JetTrees y = Edge.five();
        row("17 by 2", i -> y.cutBy(0, 17, 2, i), 0, 1, 2, 3, 4);
        row("19 by 2", i -> y.cutBy(0, 19, 2, i), 2, 3, 4, 5);
    }

    /** Promise 31: "up 0": MEASURES that are 0 aren't above it. */
    static void p31_nothing() {
        JetTrees x = Edge.treeOf(-1, 40, 0, Edge.t(5, 5, 7), Edge.t(5, 5, 8), Edge.t(50, 5, 8));
        row("0 by 1", i -> x.cutBy(0, 0, 1, i), 2, 3);
        row("0 by the greatest", i -> x.cutBy(0, 0, MAX_VALUE, i), 2, 3);
        row("1 by the greatest", i -> x.cutBy(0, 1, MAX_VALUE, i), 2, 3);
    }

    /** Promise 31, II: "(behind all, if none is)": JETS are there. */
    static void p31_behindAll() {
        JetTrees x = Edge.five();
        row("100: the beam's own", i -> x.cutBy(0, 100, 1, i), 6, 7);
        row("the greatest", i -> x.cutBy(0, MAX_VALUE, 1, i), 6, 7);
    }

    /** Promise 31, II: "LEFT and JETS that went, behind the STEPS ahead of the first one": later lesser ones don't count. */
    static void p31_theFirstAbove() {
        // The beam of STEP 2 has 81 by 10099 times itself, then 64 by 100 come, then 81 by 361.
        JetTrees x = early();
        row("64 by 100", i -> x.cutBy(0, 64, 100, i), 6, 7);
        row("63 by 100", i -> x.cutBy(0, 63, 100, i), 3, 4, 6);
        Edge.due("then a lesser MEASURE", x.up(0, 4) * 100 < 63 * x.down(0, 4), true);
    }

    /** Promise 31: "A CUT by a mark": MEASURES far above any int, whose products no long holds. */
    static void p31_farAbove() {
        JetTrees x = Edge.treeOf(1, 200, 0, Edge.t(0, 0, 9999), Edge.t(0, 100, 9999));
        Edge.due("up", x.up(0, 0), 10000L * 9999 * 9999);
        row("the greatest mark", i -> x.cutBy(0, MAX_VALUE, 1, i), 0, 1);
        row("the greatest down", i -> x.cutBy(0, MAX_VALUE, MAX_VALUE, i), 0, 1);
    }

    /** Promise 31: "likewise": as CUT to n, NONE where there is none, and for others. */
    static void p31_i() {
        JetTrees x = Edge.five();
        bad("i", -1, i -> x.cutBy(0, 17, 1, i), -2, 3, 40);
        noSuchTree("cutBy", -1, tree -> x.cutBy(tree, 17, 1, -1));
        noSuchTree("cutBy", -1, tree -> x.cutBy(tree, 17, 1, 0));
    }

    // ---- Promise 32: together

    /** Promise 32: "NONE: by none": in two JETS. */
    static void p32_byNone() {
        JetTrees x = Edge.five();
        Edge.due("together(0, 2, 3)", x.together(0, 2, 3), -1);
        Edge.due("together(0, 2, 1)", x.together(0, 2, 1), 1);
    }

    /** Promise 32: "and for others (unlike ones)": a TRACK with itself. */
    static void p32_unlikeOnes() {
        JetTrees x = Edge.five();
        for (int t = 0; t < 5; t++) {
            Edge.due("together(0, " + t + ", " + t + ")", x.together(0, t, t), -1);
        }
    }

    /** Promise 32: "and for others": TRACKS beside the first and the last; KNOTS that were JOINED are no TRACKS. */
    static void p32_tracks() {
        JetTrees x = Edge.five();
        bad("the one", -1, track -> x.together(0, track, 0), -1, 5, 6, 40);
        bad("the other", -1, track -> x.together(0, 0, track), -1, 5, 6, 40);
        noSuchTree("together", -1, tree -> x.together(tree, 0, 1));
        Edge.due("the first and the last of 40", oneOf40().together(0, 0, 39) >= 0, true);
    }

    /** Promise 32: "The STEP by which two TRACKS are in one KNOT first.": STEP 0, and the last that JOINS. */
    static void p32_first() {
        JetTrees x = Edge.five();
        Edge.due("together(0, 0, 1)", x.together(0, 0, 1), 0);
        Edge.due("together(0, 1, 0)", x.together(0, 1, 0), 0);
        Edge.due("together(0, 4, 3)", x.together(0, 4, 3), 2);
    }

    // ---- Promises 39 and 40: kept, within

    /** Promise 39: "NONE for others (nothing KEPT).": as beside 0 .. 3, and where nothing is KEPT. */
    static void p39_as() {
        JetTrees x = Edge.five();
        x.keep(0, 0, 3);
        x.keep(3, 0, 2);
        Edge.due("kept(0, -1)", x.kept(0, -1), 3);
        Edge.due("kept(3, -1)", x.kept(3, -1), 2);
        bad("as, how many", -1, as -> x.kept(as, -1), -1, 1, 2, 4);
        bad("as, the first", -1, as -> x.kept(as, 0), -1, 1, 2, 4);
    }

    /** Promise 39: "KEPT: how many sets (i NONE); of the i-th LEAVES.": i beside those that there are. */
    static void p39_i() {
        JetTrees x = Edge.five();
        x.keep(0, 0, 3);
        row("kept(0)", i -> x.kept(0, i), 8, 16, 7);
        bad("i", -1, i -> x.kept(0, i), -2, 3, 40);
    }

    /** Promise 39: "of the i-th LEAVES": the 40th of 40, and one with all of them. */
    static void p39_of40() {
        JetTrees x = oneOf40();
        x.keep(0, 0, 40);
        x.keep(1, 0, 1);
        Edge.due("kept(0, 39)", x.kept(0, 39), 1L << 39);
        Edge.due("kept(0, 40)", x.kept(0, 40), -1);
        row("kept(1)", i -> x.kept(1, i), ALL);
    }

    /** Promise 40: "False for others.": as beside 0 .. 3, and where nothing is KEPT, on either side. */
    static void p40_as() {
        JetTrees x = Edge.five();
        x.keep(0, 0, 5);
        x.keep(3, 0, 2);
        Edge.due("within(0, 3)", x.within(0, 3), true);
        bad("the one", 0, as -> x.within(as, 3) ? 1 : 0, -1, 1, 2, 4);
        bad("the other", 0, as -> x.within(0, as) ? 1 : 0, -1, 1, 2, 4);
        Edge.due("nothing within nothing", x.within(1, 1), false);
    }

    /** Promise 40, Terms: "if each of its sets is in a set of that": all but one isn't enough; like sets are in one another. */
    static void p40_eachOfItsSets() {
        JetTrees x = Edge.five();
        x.keep(0, 0, 4);
        x.keep(1, 0, 3);
        x.keep(2, 0, 3);
        Edge.due("within(0, 1)", x.within(0, 1), true);
        Edge.due("within(1, 0): KNOT 6 isn't", x.within(1, 0), false);
        Edge.due("within(1, 2): like ones", x.within(1, 2), true);
        Edge.due("within(2, 1): like ones", x.within(2, 1), true);
        Edge.due("within(1, 1)", x.within(1, 1), true);
    }

    /** Promise 40, Terms: "if each of its sets is in a set of that": the first alone isn't, the last alone isn't. */
    static void p40_theFirstAndTheLast() {
        JetTrees x = Edge.five();
        x.keep(0, 0, 2);
        x.move(2, 200, 200);
        x.gather(1);
        x.keep(1, 1, 3);
        Edge.due("KNOT 6, the first, isn't", x.within(0, 1), false);
        x.move(2, 0, 4);
        x.move(4, 200, 200);
        x.gather(1);
        x.keep(1, 1, 3);
        Edge.due("KNOT 7, the last, isn't", x.within(0, 1), false);
        x.move(4, 105, 100);
        x.gather(1);
        x.keep(1, 1, 2);
        Edge.due("each is", x.within(0, 1), true);
    }
}
