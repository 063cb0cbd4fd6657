import static java.lang.Integer.MAX_VALUE;
import static java.lang.Integer.MIN_VALUE;

import java.util.function.IntToLongFunction;

/** The edges of promises 33 to 38 and 41: a test for each sentence, whose first remark says which. */
public final class EdgesOfBranchesTest {
    public static void main(String[] args) {
        Edge.run(EdgesOfBranchesTest.class);
    }

    private static final long ALL = (1L << 40) - 1;

    private static void bad(String call, long due, IntToLongFunction asked, int... values) {
        for (int value : values) {
            Edge.due(call + " " + value, asked.applyAsLong(value), due);
        }
        Edge.due(call + " the least int", asked.applyAsLong(MIN_VALUE), due);
        Edge.due(call + " the greatest int", asked.applyAsLong(MAX_VALUE), due);
    }

    /** TREES and KNOTS beside those of five(): KNOTS 0 .. 7 of TREE 0. */
    private static void badTrees(long due, IntToLongFunction asked) {
        bad("TREE", due, asked, -1, 1, 2, 3, 4);
    }

    private static void badKnots(long due, IntToLongFunction asked) {
        bad("KNOT", due, asked, -1, 8, 79);
    }

    /** TRACKS i, 9 apart in ROUND, in one JET, KNOT 2n - 2. */
    private static JetTrees oneOf(int n) {
        JetTrees x = Edge.many(n);
        x.set(1, 0);
        x.set(0, 200);
        x.gather(0);
        return x;
    }

    /** By POWER -1 each of 39 light TRACKS is JOINED with the heavy one, TRACK 0, one behind the other. */
    private static JetTrees chain() {
        JetTrees x = new JetTrees();
        x.track(0, 0, 9999);
        for (int i = 1; i < 40; i++) {
            x.track(4 * i, 0, 1);
        }
        x.set(0, 200);
        x.set(2, 1);
        Edge.due("one JET", x.gather(0), 1);
        return x;
    }

    private static JetTrees two(int across, int weight, int other) {
        return Edge.treeOf(0, 200, 0, Edge.t(0, 0, weight), Edge.t(across, 0, other));
    }

    // ---- Promise 33: groom

    /** Promise 33: "NONE for others.": TREES and KNOTS beside those that there are. */
    static void p33_others() {
        JetTrees x = Edge.five();
        badTrees(-1, tree -> x.groom(tree, 0, 500, 0));
        badKnots(-1, knot -> x.groom(0, knot, 500, 0));
        Edge.due("the first KNOT", x.groom(0, 0, 500, 0), 0);
        Edge.due("the last KNOT", x.groom(0, 7, 400, 0), 7);
    }

    /** Promise 33, II: "by Z (0 .. 1000)". */
    static void p33_z() {
        JetTrees x = Edge.five();
        Edge.due("Z 0", x.groom(0, 6, 0, 0), 6);
        Edge.due("Z 1000", x.groom(0, 6, 1000, 0), 0);
        bad("Z", -1, z -> x.groom(0, 6, z, 0), -1, 1001);
    }

    /** Promise 33, II: "and SLOPE (0, 1)". */
    static void p33_slope() {
        JetTrees x = Edge.five();
        Edge.due("SLOPE 0", x.groom(0, 6, 1000, 0), 0);
        Edge.due("SLOPE 1", x.groom(0, 6, 1000, 1), 6);
        bad("SLOPE", -1, slope -> x.groom(0, 6, 1000, slope), -1, 2);
    }

    /** Promise 33, II: "as long as it was JOINED": a TRACK is itself, and the last that is gone on with may be one. */
    static void p33_aTrack() {
        JetTrees x = Edge.five();
        Edge.due("a TRACK, Z 1000", x.groom(0, 4, 1000, 0), 4);
        Edge.due("a TRACK, SLOPE 1", x.groom(0, 4, 1000, 1), 4);
        Edge.due("a TRACK, Z 0", x.groom(0, 4, 0, 0), 4);
        Edge.due("down to a TRACK", x.groom(0, 7, 1000, 0), 4);
    }

    /** Promise 33, II: "is it less than Z times both WEIGHTS": just as much isn't less. */
    static void p33_justAsMuch() {
        JetTrees x = Edge.five();
        Edge.due("50 of 200, Z 250", x.groom(0, 6, 250, 0), 6);
        Edge.due("50 of 200, Z 251", x.groom(0, 6, 251, 0), 5);
        Edge.due("50 of 150, Z 333", x.groom(0, 5, 333, 0), 5);
        Edge.due("50 of 150, Z 334", x.groom(0, 5, 334, 0), 0);
    }

    /** Promise 33, II: "SLOPE 1: times RADIUS times itself, too" and "(SLOPE 1: times SQUARE of both)": just as much. */
    static void p33_justAsMuchSloped() {
        // 50 of 100, 8 apart, RADIUS 10: 50 * 1000 * 100 is 100 * 64 * 781.25.
        JetTrees x = Edge.treeOf(0, 10, 0, Edge.t(0, 0, 50), Edge.t(8, 0, 50));
        Edge.due("Z 781", x.groom(0, 2, 781, 1), 2);
        Edge.due("Z 782", x.groom(0, 2, 782, 1), 0);
        // 50 of 100, 8 apart, RADIUS 9: 50 * 1000 * 81 is 100 * 64 * 632.8.
        JetTrees y = Edge.treeOf(0, 9, 0, Edge.t(0, 0, 50), Edge.t(8, 0, 50));
        Edge.due("Z 632", y.groom(0, 2, 632, 1), 2);
        Edge.due("Z 633", y.groom(0, 2, 633, 1), 0);
        // 32 of 100, 8 apart, RADIUS 10: 32 * 1000 * 100 is just 100 * 64 * 500.
        JetTrees z = Edge.treeOf(0, 10, 0, Edge.t(0, 0, 32), Edge.t(8, 0, 68));
        Edge.due("Z 500", z.groom(0, 2, 500, 1), 2);
        Edge.due("Z 501", z.groom(0, 2, 501, 1), 1);
    }

    /** Promise 33, II: "times RADIUS times itself, too": RADIUS of the TREE, whatever is set then. */
    static void p33_radiusOfTheTree() {
        JetTrees x = Edge.treeOf(0, 10, 0, Edge.t(0, 0, 32), Edge.t(8, 0, 68));
        x.set(0, 1);
        Edge.due("Z 500", x.groom(0, 2, 500, 1), 2);
        x.set(0, 200);
        Edge.due("Z 501", x.groom(0, 2, 501, 1), 1);
    }

    /** Promise 33, II: "(SLOPE 1: times SQUARE of both)": both on one PLACE are never less. */
    static void p33_onOnePlace() {
        JetTrees x = two(0, 1, 9999);
        Edge.due("SLOPE 1, Z 1000", x.groom(0, 2, 1000, 1), 2);
        Edge.due("SLOPE 0, Z 1000", x.groom(0, 2, 1000, 0), 1);
    }

    /** Promise 33, II: "the lighter one's (of like ones the one that comes behind)": the one ahead is gone on with. */
    static void p33_likeOnes() {
        JetTrees x = Edge.treeOf(0, 200, 0, Edge.t(7, 0, 100), Edge.t(0, 0, 100));
        Edge.due("Z 500", x.groom(0, 2, 500, 0), 2);
        Edge.due("Z 501", x.groom(0, 2, 501, 0), 1);
    }

    /** Promise 33: "GROOMED: the KNOT.": all the way down, past 39 that were JOINED. */
    static void p33_allTheWayDown() {
        JetTrees x = chain();
        Edge.due("Z 1000", x.groom(0, 78, 1000, 0), 0);
        Edge.due("Z 0", x.groom(0, 78, 0, 0), 78);
    }

    // ---- Promise 34: trim

    /** Promise 34: "0 for others.": TREES and KNOTS beside those that there are. */
    static void p34_others() {
        JetTrees x = Edge.five();
        badTrees(0, tree -> x.trim(tree, 0, 5, 0));
        badKnots(0, knot -> x.trim(0, knot, 5, 0));
        Edge.due("the first KNOT", x.trim(0, 0, 5, 0), 1);
        Edge.due("the last KNOT", x.trim(0, 7, 5, 0), 24);
    }

    /** Promise 34, II: "by a radius r (1 .. 200)". */
    static void p34_r() {
        JetTrees x = Edge.five();
        Edge.due("r 1", x.trim(0, 6, 1, 500), 1);
        Edge.due("r 200", x.trim(0, 6, 200, 500), 7);
        bad("r", 0, r -> x.trim(0, 6, r, 0), 0, 201, -1);
    }

    /** Promise 34, II: "TRIMMED, a KNOT, by a radius r (1 .. 200) and Z", "Z (0 .. 1000)". */
    static void p34_z() {
        JetTrees x = Edge.five();
        Edge.due("Z 0: all stay", x.trim(0, 6, 1, 0), 7);
        Edge.due("Z 1000, many JETS: none stays", x.trim(0, 6, 1, 1000), 0);
        Edge.due("Z 1000, one JET: all stay", x.trim(0, 6, 200, 1000), 7);
        bad("Z", 0, z -> x.trim(0, 6, 200, z), -1, 1001);
    }

    /** Promise 34, II: "is Z times the KNOT's WEIGHT or more": just as much stays. */
    static void p34_justAsMuch() {
        JetTrees x = Edge.five();
        Edge.due("50 of 200, Z 250", x.trim(0, 6, 3, 250), 7);
        Edge.due("50 of 200, Z 251", x.trim(0, 6, 3, 251), 1);
        Edge.due("100 of 200, Z 500", x.trim(0, 6, 3, 500), 1);
        Edge.due("100 of 200, Z 501", x.trim(0, 6, 3, 501), 0);
    }

    /** Promise 34, II: "its LEAVES GATHERED anew by r": of a TRACK that is one JET with all its WEIGHT. */
    static void p34_aTrack() {
        Edge.due("a TRACK, Z 1000", Edge.five().trim(0, 4, 1, 1000), 16);
    }

    /** Promise 34, II: "its LEAVES GATHERED anew by r (POWER, SUMS of the TREE)": r just the way between both. */
    static void p34_justTheWay() {
        JetTrees x = Edge.five();
        Edge.due("r 5: each alone", x.trim(0, 7, 5, 600), 0);
        Edge.due("r 6: both", x.trim(0, 7, 6, 600), 24);
        x.set(1, 1);
        x.set(2, 1);
        Edge.due("whatever is set then", x.trim(0, 7, 6, 600), 24);
    }

    /** Promise 34: "TRIMMED: LEAVES that stay.": all 40, and the last of 40. */
    static void p34_of40() {
        JetTrees x = oneOf(40);
        Edge.due("all", x.trim(0, 78, 200, 1000), ALL);
        Edge.due("each alone, Z 0", x.trim(0, 78, 9, 0), ALL);
        Edge.due("the heaviest: 40 of 820", x.trim(0, 78, 9, 48), 1L << 39);
        Edge.due("none", x.trim(0, 78, 9, 49), 0);
    }

    // ---- Promise 35: prune

    /** Promise 35: "0 for others.": TREES and KNOTS beside those that there are. */
    static void p35_others() {
        JetTrees x = Edge.five();
        badTrees(0, tree -> x.prune(tree, 0, 0, 5));
        badKnots(0, knot -> x.prune(0, knot, 0, 5));
        Edge.due("the first KNOT", x.prune(0, 0, 0, 5), 1);
        Edge.due("the last KNOT", x.prune(0, 7, 0, 5), 24);
    }

    /** Promise 35: PRUNED "by Z and r", II: "Z (0 .. 1000)". */
    static void p35_z() {
        JetTrees x = Edge.five();
        Edge.due("Z 0", x.prune(0, 6, 0, 1), 7);
        Edge.due("Z 1000", x.prune(0, 6, 1000, 1), 1);
        bad("Z", 0, z -> x.prune(0, 6, z, 1), -1, 1001);
    }

    /** Promise 35: PRUNED "by Z and r", II: "a radius r (1 .. 200)". */
    static void p35_r() {
        JetTrees x = Edge.five();
        Edge.due("r 1", x.prune(0, 6, 1000, 1), 1);
        Edge.due("r 200", x.prune(0, 6, 1000, 200), 7);
        bad("r", 0, r -> x.prune(0, 6, 0, r), 0, 201, -1);
    }

    /** Promise 35, II: "is the lighter part's WEIGHT times 1000 less than Z times both": just as much isn't less. */
    static void p35_justAsMuch() {
        JetTrees x = Edge.five();
        Edge.due("50 of 200, Z 250", x.prune(0, 6, 250, 1), 7);
        Edge.due("50 of 200, Z 251", x.prune(0, 6, 251, 1), 3);
        Edge.due("50 of 150, Z 333", x.prune(0, 6, 333, 1), 3);
        Edge.due("50 of 150, Z 334", x.prune(0, 6, 334, 1), 1);
    }

    /** Promise 35, II: "and SQUARE of both above r times itself": just as much isn't above. */
    static void p35_justTheWay() {
        JetTrees x = Edge.five();
        Edge.due("5 apart, r 5", x.prune(0, 7, 1000, 5), 24);
        Edge.due("5 apart, r 4", x.prune(0, 7, 1000, 4), 16);
        Edge.due("17, r 4; 9, r 4", x.prune(0, 6, 1000, 4), 3);
        Edge.due("17, r 5", x.prune(0, 6, 1000, 5), 7);
        Edge.due("9, r 3", x.prune(0, 5, 1000, 3), 3);
        Edge.due("9, r 2", x.prune(0, 5, 1000, 2), 1);
    }

    /** Promise 35, II: "all KNOTS in it that were JOINED, from itself down": none in a TRACK. */
    static void p35_aTrack() {
        Edge.due("a TRACK", Edge.five().prune(0, 3, 1000, 1), 8);
    }

    /** Promise 35, II: "the lighter one is left out": of like ones the one that comes behind. */
    static void p35_likeOnes() {
        JetTrees x = Edge.treeOf(0, 200, 0, Edge.t(7, 0, 100), Edge.t(0, 0, 100));
        Edge.due("Z 500", x.prune(0, 2, 500, 6), 3);
        Edge.due("Z 501, r 6", x.prune(0, 2, 501, 6), 2);
        Edge.due("Z 501, r 7", x.prune(0, 2, 501, 7), 3);
    }

    /** Promise 35: "PRUNED: LEAVES that stay.": all 40, and just one of 40. */
    static void p35_of40() {
        JetTrees x = oneOf(40);
        Edge.due("Z 0", x.prune(0, 78, 0, 1), ALL);
        Edge.due("r 200", x.prune(0, 78, 1000, 200), ALL);
        Edge.due("just one stays", Long.bitCount(x.prune(0, 78, 1000, 1)), 1);
        Edge.due("the last of a chain", chain().prune(0, 78, 1000, 1), 1);
        Edge.due("those within 8", chain().prune(0, 78, 1000, 8), 7);
    }

    // ---- Promise 36: split

    /** Promise 36: "NONE: there is none, and for others.": TREES and KNOTS beside those that there are. */
    static void p36_others() {
        JetTrees x = Edge.five();
        badTrees(-1, tree -> x.split(tree, 0, -1, 0));
        badTrees(-1, tree -> x.split(tree, 5, 0, 0));
        badKnots(-1, knot -> x.split(0, knot, -1, 0));
        badKnots(-1, knot -> x.split(0, knot, 0, 0));
    }

    /** Promise 36: "SPLITS: how many (i NONE)": whatever is asked of the i-th. */
    static void p36_howMany() {
        JetTrees x = Edge.five();
        for (int what : new int[] {-1, 0, 1, 2, 3, MIN_VALUE, MAX_VALUE}) {
            Edge.due("of KNOT 6, what " + what, x.split(0, 6, -1, what), 2);
            Edge.due("of KNOT 7, what " + what, x.split(0, 7, -1, what), 1);
            Edge.due("of a TRACK, what " + what, x.split(0, 4, -1, what), 0);
        }
    }

    /** Promise 36: "of the i-th": i beside those that there are; a TRACK has none. */
    static void p36_i() {
        JetTrees x = Edge.five();
        Edge.due("the first", x.split(0, 6, 0, 0), 6);
        Edge.due("the last", x.split(0, 6, 1, 0), 5);
        bad("i", -1, i -> x.split(0, 6, i, 0), -2, 2, 40);
        bad("i of a TRACK", -1, i -> x.split(0, 4, i, 0), -2, 0, 1);
    }

    /** Promise 36: "0 the KNOT" .. "2 SQUARE of both parts. NONE: there is none, and for others." */
    static void p36_what() {
        JetTrees x = Edge.five();
        Edge.due("what 0", x.split(0, 7, 0, 0), 7);
        Edge.due("what 1", x.split(0, 7, 0, 1), 428);
        Edge.due("what 2", x.split(0, 7, 0, 2), 25);
        bad("what", -1, what -> x.split(0, 7, 0, what), -1, 3);
    }

    /** Promise 36: "1 the lighter part's WEIGHT of 1000 of both (downward)": the least 0, the greatest 500. */
    static void p36_share() {
        Edge.due("1 of 10000", two(3, 1, 9999).split(0, 2, 0, 1), 0);
        Edge.due("10 of 10000", two(3, 10, 9990).split(0, 2, 0, 1), 1);
        Edge.due("9 of 9009", two(3, 9, 9000).split(0, 2, 0, 1), 0);
        Edge.due("half", two(3, 9999, 9999).split(0, 2, 0, 1), 500);
        Edge.due("9998 of 19997", two(3, 9998, 9999).split(0, 2, 0, 1), 499);
    }

    /** Promise 36: "2 SQUARE of both parts": 0 on one PLACE, the greatest that is JOINED. */
    static void p36_square() {
        Edge.due("0", two(0, 5, 5).split(0, 2, 0, 2), 0);
        Edge.due("39601", two(199, 5, 5).split(0, 2, 0, 2), 39601);
    }

    /** Promise 36, II: "then the heavier part of it (of like ones the one that comes ahead), and so on". */
    static void p36_likeOnes() {
        // 0 and 1 are KNOT 4 (JOINED first), 2 and 3 are KNOT 5: like WEIGHTS, KNOT 5 is ahead.
        JetTrees x = Edge.treeOf(0, 200, 0, Edge.t(50, 0, 10), Edge.t(52, 0, 10), Edge.t(0, 0, 15), Edge.t(3, 0, 5));
        Edge.due("KNOT 6", x.split(0, 6, 0, 0), 6);
        Edge.due("the part ahead", x.split(0, 6, 1, 0), 5);
        JetTrees y = Edge.treeOf(0, 200, 0, Edge.t(50, 0, 10), Edge.t(52, 0, 11), Edge.t(0, 0, 15), Edge.t(3, 0, 5));
        Edge.due("the heavier part", y.split(0, 6, 1, 0), 4);
    }

    /** Promise 36, II: "and so on, as long as they were JOINED.": 39 in a chain of 40 TRACKS. */
    static void p36_of40() {
        JetTrees x = chain();
        Edge.due("how many", x.split(0, 78, -1, 0), 39);
        for (int i = 0; i < 39; i++) {
            Edge.due("SPLIT " + i, x.split(0, 78, i, 0), 78 - i);
        }
        Edge.due("behind the last", x.split(0, 78, 39, 0), -1);
    }

    // ---- Promises 37 and 38: width, closeness

    /** Promise 37: "0 for others.": TREES and KNOTS beside those that there are. */
    static void p37_others() {
        JetTrees x = Edge.five();
        badTrees(0, tree -> x.width(tree, 6));
        badKnots(0, knot -> x.width(0, knot));
        Edge.bits("the last KNOT", x.width(0, 7), (30.0 * 4 + 40.0 * 9) / 70.0);
    }

    /** Promise 37, II: "WEIGHTS of its LEAVES times SQUARE to its PLACE": of a TRACK 0, whose bits are 0. */
    static void p37_aTrack() {
        JetTrees x = Edge.five();
        Edge.due("width(0, 0)", x.width(0, 0), 0);
        Edge.due("on one PLACE", two(0, 5, 6).width(0, 2), 0);
    }

    /** Promise 37, II: "together (a whole number), divided by its WEIGHT (both as doubles)": far below 1 and far above. */
    static void p37_smallAndGreat() {
        Edge.bits("1 by 10000", two(1, 9999, 1).width(0, 2), 1.0 / 10000);
        Edge.bits("1 by 3", two(1, 2, 1).width(0, 2), 1.0 / 3.0);
        JetTrees x = Edge.treeOf(0, 200, 1, Edge.t(0, 0, 9999), Edge.t(199, 0, 9999));
        Edge.bits("half of 39601", x.width(0, 2), 9999.0 * 39601 / 19998.0);
    }

    /** Promise 38: "0 for others.": TREES and KNOTS beside those that there are. */
    static void p38_others() {
        JetTrees x = Edge.five();
        badTrees(0, tree -> x.closeness(tree, 6));
        badKnots(0, knot -> x.closeness(0, knot));
        Edge.bits("the last KNOT", x.closeness(0, 7), 30000.0 / 4900.0);
    }

    /** Promise 38, II: "of all twos of its LEAVES both WEIGHTS times SQUARE": a TRACK has no twos: 0. */
    static void p38_aTrack() {
        JetTrees x = Edge.five();
        Edge.due("closeness(0, 0)", x.closeness(0, 0), 0);
        Edge.due("on one PLACE", two(0, 5, 6).closeness(0, 2), 0);
    }

    /** Promise 38, II: "together (a whole number), divided by its WEIGHT times itself (both as doubles)": the greatest. */
    static void p38_great() {
        JetTrees x = new JetTrees();
        x.set(1, 0);
        x.set(0, 200);
        for (int i = 0; i < 40; i++) {
            x.track(i < 20 ? 0 : 199, i % 20, 9999 - i);
        }
        Edge.due("one JET", x.gather(0), 1);
        long sum = 0;
        long weight = 0;
        for (int i = 0; i < 40; i++) {
            weight += 9999 - i;
            for (int j = i + 1; j < 40; j++) {
                long across = i < 20 && j >= 20 ? 199 : 0;
                long round = i % 20 - j % 20;
                sum += (9999L - i) * (9999 - j) * (across * across + round * round);
            }
        }
        Edge.bits("of all 40", x.closeness(0, 78), (double) sum / (double) (weight * weight));
        Edge.bits("9999 by 10000 times itself", two(1, 9999, 1).closeness(0, 2), 9999.0 / 100000000.0);
    }

    // ---- Promise 41: tau

    /** Promise 41: "0 for others.": TREES and KNOTS beside those that there are. */
    static void p41_others() {
        JetTrees x = Edge.five();
        badTrees(0, tree -> x.tau(tree, 6, 1));
        badKnots(0, knot -> x.tau(0, knot, 1));
        Edge.bits("the last KNOT", x.tau(0, 7, 1), (30.0 * 4 + 40.0 * 9) / 70.0);
    }

    /** TRACKS of WEIGHT 10 in a JET: 0 and 1 are JOINED first, so they are the last to give way. */
    private static JetTrees manyInOne(int n) {
        JetTrees x = new JetTrees();
        x.track(0, 0, 10);
        x.track(2, 0, 10);
        for (int i = 2; i < n; i++) {
            x.track(i % 2 == 0 ? -20 : 20, 20 + 21 * i, 10);
        }
        x.set(1, 0);
        x.set(0, 200);
        Edge.due("one JET", x.gather(0), 1);
        Edge.due("0 and 1 are JOINED first", x.together(0, 0, 1), 0);
        return x;
    }

    /** Promise 41, II: "TAU of a KNOT, n (1 .. 9)". */
    static void p41_n() {
        JetTrees x = manyInOne(10);
        Edge.due("n 1 is WIDTH", x.tau(0, 18, 1), x.width(0, 18));
        Edge.due("n 1 isn't 0", x.tau(0, 18, 1) != 0, true);
        Edge.bits("n 9: all but 0 and 1 by themselves", x.tau(0, 18, 9), 20.0 / 100.0);
        JetTrees y = manyInOne(11);
        Edge.due("of 11 LEAVES n 9 isn't 0", y.tau(0, 20, 9) != 0, true);
        bad("n", 0, n -> y.tau(0, 20, n), 0, 10, -1);
    }

    /** Promise 41, II: "as long as any of these was JOINED": n above how many LEAVES there are. */
    static void p41_asLongAsAny() {
        JetTrees x = Edge.five();
        Edge.bits("KNOT 6, n 2", x.tau(0, 6, 2), 300.0 / 200.0);
        Edge.due("KNOT 6, n 3: all by themselves", x.tau(0, 6, 3), 0);
        Edge.due("KNOT 6, n 9", x.tau(0, 6, 9), 0);
        Edge.due("a TRACK, n 1", x.tau(0, 0, 1), 0);
        Edge.due("a TRACK, n 9", x.tau(0, 0, 9), 0);
    }

    /** Promise 41, II: "the one that was JOINED latest gives way to both its parts": not the heaviest, not the widest. */
    static void p41_theLatest() {
        JetTrees x = Edge.treeOf(0, 200, 0, Edge.t(0, 0, 900), Edge.t(0, 2, 900), Edge.t(0, 20, 10), Edge.t(0, 23, 10));
        Edge.due("0 and 1 first", x.together(0, 0, 1), 0);
        Edge.due("then 2 and 3", x.together(0, 2, 3), 1);
        Edge.bits("n 2", x.tau(0, 6, 2), (900.0 + 900.0 + 10.0 + 40.0) / 1820.0);
        Edge.bits("n 3: 2 and 3 by themselves", x.tau(0, 6, 3), 1800.0 / 1820.0);
    }

    /** Promise 41, II: "times the least SQUARE to the PLACES of these": a LEAF may be nearer to another one's. */
    static void p41_theLeastSquare() {
        // By POWER -1 TRACK 1 (at 8) is JOINED with the heavy one (at 0), though 2 (at 13) is nearer.
        JetTrees x = Edge.treeOf(-1, 200, 1, Edge.t(0, 0, 100), Edge.t(8, 0, 1), Edge.t(13, 0, 1));
        Edge.due("0 and 1 first", x.together(0, 0, 1), 0);
        Edge.bits("n 1", x.tau(0, 4, 1), (64.0 + 169.0) / 102.0);
        Edge.bits("n 2: 5 to TRACK 2, not 8", x.tau(0, 4, 2), 25.0 / 102.0);
    }
}
