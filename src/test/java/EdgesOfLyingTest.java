import static java.lang.Integer.MAX_VALUE;
import static java.lang.Integer.MIN_VALUE;

import java.util.function.IntToLongFunction;

/** The edges of promises 51 to 57, 59 and 60: a test for each sentence, whose first remark says which. */
public final class EdgesOfLyingTest {
    public static void main(String[] args) {
        Edge.run(EdgesOfLyingTest.class);
    }

    private static final JetTrees NEW = new JetTrees();

    private static void bad(String call, long due, IntToLongFunction asked, int... values) {
        for (int value : values) {
            Edge.due(call + " " + value, asked.applyAsLong(value), due);
        }
        Edge.due(call + " the least int", asked.applyAsLong(MIN_VALUE), due);
        Edge.due(call + " the greatest int", asked.applyAsLong(MAX_VALUE), due);
    }

    private static void row(String call, IntToLongFunction asked, long... due) {
        Edge.due(call + " how many", asked.applyAsLong(-1), due.length);
        for (int i = 0; i < due.length; i++) {
            Edge.due(call + " the " + i + ".", asked.applyAsLong(i), due[i]);
        }
        Edge.due(call + " behind the last", asked.applyAsLong(due.length), -1);
    }

    // ---- Promise 51: span

    private static void two(JetTrees x, int i, int first, int second, int square) {
        Edge.due("span(" + i + ", 0)", x.span(i, 0), first);
        Edge.due("span(" + i + ", 1)", x.span(i, 1), second);
        Edge.due("span(" + i + ", 2)", x.span(i, 2), square);
    }

    /** Promise 51: "SPANNED: how many (i NONE; what 0)": of none and of one TRACK none, of 40 TRACKS 39. */
    static void p51_howMany() {
        Edge.due("none", NEW.span(-1, 0), 0);
        Edge.due("one", Edge.of(Edge.t(1, 1, 1)).span(-1, 0), 0);
        Edge.due("two", Edge.of(Edge.t(1, 1, 1), Edge.t(1, 1, 1)).span(-1, 0), 1);
        Edge.due("40", Edge.many(40).span(-1, 0), 39);
    }

    /** Promise 51: "how many (i NONE; what 0)": with another what NONE. */
    static void p51_howManyByWhat0Alone() {
        JetTrees x = Edge.five();
        bad("what", -1, what -> x.span(-1, what), -1, 1, 2, 3);
    }

    /** Promise 51: "NONE: there is none such": i beside those that there are. */
    static void p51_i() {
        JetTrees x = Edge.five();
        two(x, 0, 0, 1, 9);
        two(x, 3, 2, 3, 100 * 100 + 96 * 96);
        bad("i", -1, i -> x.span(i, 0), -2, 4, 40);
        Edge.due("without TRACKS", NEW.span(0, 0), -1);
        Edge.due("one TRACK", Edge.of(Edge.t(1, 1, 1)).span(0, 0), -1);
        Edge.due("the 39th of 40", Edge.many(40).span(38, 2), 81);
        Edge.due("the 40th of 40", Edge.many(40).span(39, 2), -1);
    }

    /** Promise 51: "of the i-th: 0, 1 both TRACKS (the first first), 2 SQUARE. NONE: there is none such, and for others." */
    static void p51_what() {
        JetTrees x = Edge.five();
        bad("what", -1, what -> x.span(0, what), -1, 3);
    }

    /** Promise 51: "both TRACKS (the first first)": by ACROSS, ROUND, WEIGHT, number, as in GATHERED. */
    static void p51_theFirstFirst() {
        two(Edge.of(Edge.t(1, 0, 1), Edge.t(0, 9, 9)), 0, 1, 0, 82);
        two(Edge.of(Edge.t(0, 359, 1), Edge.t(0, 0, 9)), 0, 1, 0, 1);
        two(Edge.of(Edge.t(0, 5, 9), Edge.t(0, 5, 8)), 0, 1, 0, 0);
        two(Edge.of(Edge.t(0, 5, 9), Edge.t(0, 5, 9)), 0, 0, 1, 0);
    }

    /** Promise 51, II: "of like ones as in GATHERED by which come ahead": the first ones, then the second ones. */
    static void p51_likeOnes() {
        // Four corners, 2 apart: the ones at ACROSS 0 first, then across.
        JetTrees x = Edge.of(Edge.t(2, 2, 1), Edge.t(2, 0, 1), Edge.t(0, 2, 1), Edge.t(0, 0, 1));
        two(x, 0, 3, 2, 4);
        two(x, 1, 3, 1, 4);
        two(x, 2, 2, 0, 4);
        Edge.due("no more", x.span(3, 0), -1);
    }

    /** Promise 51, II: "if there is no way between both by those that were": not round three of them. */
    static void p51_noWay() {
        JetTrees x = Edge.of(Edge.t(0, 0, 1), Edge.t(3, 0, 1), Edge.t(6, 0, 1), Edge.t(16, 0, 1));
        two(x, 0, 0, 1, 9);
        two(x, 1, 1, 2, 9);
        two(x, 2, 2, 3, 100);
    }

    /** Promise 51, II: "if there is no way between both by those that were": by which two the way was first, doesn't matter. */
    static void p51_noWayByOthers() {
        JetTrees x = Edge.of(Edge.t(0, 0, 1), Edge.t(1, 50, 1), Edge.t(2, 1, 1), Edge.t(100, 0, 1));
        two(x, 0, 0, 2, 5);
        two(x, 1, 1, 2, 1 + 49 * 49);
        two(x, 2, 2, 3, 98 * 98 + 1);
        Edge.due("no more", x.span(3, 0), -1);
    }

    /** Promise 51, II: "twos of TRACKS by SQUARE": past the last degree, and 0 on one PLACE. */
    static void p51_pastTheLastDegree() {
        JetTrees x = Edge.of(Edge.t(0, 358, 1), Edge.t(0, 1, 1), Edge.t(0, 5, 1), Edge.t(0, 5, 2));
        two(x, 0, 2, 3, 0);
        two(x, 1, 1, 0, 9);
        two(x, 2, 1, 2, 16);
    }

    // ---- Promise 52: gap

    private static void gap(JetTrees x, int great, int begin) {
        Edge.due("gap(0)", x.gap(0), great);
        Edge.due("gap(1)", x.gap(1), begin);
    }

    /** Promise 52: "NONE without TRACKS, and for others." */
    static void p52_withoutTracks() {
        gap(NEW, -1, -1);
        JetTrees x = Edge.five();
        x.hand(1);
        gap(x, -1, -1);
    }

    /** Promise 52: "how great (0), the ROUND at which it begins (1)", "and for others." */
    static void p52_what() {
        JetTrees x = Edge.five();
        gap(x, 260, 100);
        bad("what", -1, x::gap, -1, 2);
    }

    /** Promise 52, II: "(of all ROUNDS that there are; just one: 360)": however many TRACKS are there. */
    static void p52_justOne() {
        gap(Edge.of(Edge.t(0, 77, 1)), 360, 77);
        gap(Edge.of(Edge.t(0, 0, 1), Edge.t(5, 0, 1), Edge.t(9, 0, 1)), 360, 0);
        gap(Edge.of(Edge.t(0, 359, 1)), 360, 359);
    }

    /** Promise 52, II: "of all ways ROUND, upward, from a TRACK to the next one": past the last degree. */
    static void p52_pastTheLastDegree() {
        gap(Edge.of(Edge.t(0, 0, 1), Edge.t(0, 359, 1)), 359, 0);
        gap(Edge.of(Edge.t(0, 358, 1), Edge.t(0, 359, 1)), 359, 359);
        gap(Edge.of(Edge.t(0, 100, 1), Edge.t(0, 150, 1), Edge.t(0, 150, 1), Edge.t(0, 120, 1)), 310, 150);
    }

    /** Promise 52, II: "of like ones that which begins at the least ROUND." */
    static void p52_likeOnes() {
        gap(Edge.of(Edge.t(0, 180, 1), Edge.t(0, 0, 1)), 180, 0);
        gap(Edge.of(Edge.t(0, 300, 1), Edge.t(0, 180, 1), Edge.t(0, 60, 1)), 120, 60);
        gap(Edge.of(Edge.t(0, 359, 1), Edge.t(0, 179, 1)), 180, 179);
        gap(Edge.many(40), 9, 0);
    }

    // ---- Promise 53: tiles

    /** Promise 53, II: "TILES of a size s (1 .. 100)". */
    static void p53_size() {
        JetTrees x = Edge.five();
        Edge.due("size 1", x.tiles(1, 0), 5);
        Edge.due("size 100", x.tiles(100, 0), 2);
        bad("size", -1, size -> x.tiles(size, 0), 0, 101, -1);
        bad("size, most", -1, size -> x.tiles(size, 1), 0, 101, -1);
    }

    /** Promise 53: "how many have TRACKS (what 0), the most TRACKS in one (1). NONE for others." */
    static void p53_what() {
        JetTrees x = Edge.five();
        Edge.due("what 0", x.tiles(5, 0), 3);
        Edge.due("what 1", x.tiles(5, 1), 3);
        bad("what", -1, what -> x.tiles(5, what), -1, 2);
    }

    /** Promise 53: "how many have TRACKS", "the most TRACKS in one": without TRACKS 0, of 40 all. */
    static void p53_noneAndAll() {
        Edge.due("none", NEW.tiles(9, 0), 0);
        Edge.due("none", NEW.tiles(9, 1), 0);
        Edge.due("40 in TILES of their own", Edge.many(40).tiles(9, 0), 40);
        Edge.due("one in each", Edge.many(40).tiles(9, 1), 1);
        JetTrees x = new JetTrees();
        for (int i = 0; i < 40; i++) {
            x.track(150, 5, 1);
        }
        Edge.due("40 in one", x.tiles(1, 0), 1);
        Edge.due("40 in one", x.tiles(1, 1), 40);
    }

    /** Promise 53, II: "ACROSS by s, ROUND by s (downward)": ACROSS below 0, just on an edge and beside it. */
    static void p53_acrossDownward() {
        Edge.due("-1 and 0", Edge.of(Edge.t(-1, 0, 1), Edge.t(0, 0, 1)).tiles(100, 0), 2);
        Edge.due("-100 and -1", Edge.of(Edge.t(-100, 0, 1), Edge.t(-1, 0, 1)).tiles(100, 0), 1);
        Edge.due("-101 and -100", Edge.of(Edge.t(-101, 0, 1), Edge.t(-100, 0, 1)).tiles(100, 0), 2);
        Edge.due("-200 and -101", Edge.of(Edge.t(-200, 0, 1), Edge.t(-101, 0, 1)).tiles(100, 0), 1);
        Edge.due("0 and 99", Edge.of(Edge.t(0, 0, 1), Edge.t(99, 0, 1)).tiles(100, 0), 1);
        Edge.due("199 and 200", Edge.of(Edge.t(199, 0, 1), Edge.t(200, 0, 1)).tiles(100, 0), 2);
    }

    /** Promise 53, II: "ROUND by s (downward)": the last TILE round may be a small one, and isn't the first. */
    static void p53_roundDownward() {
        Edge.due("299 and 300", Edge.of(Edge.t(0, 299, 1), Edge.t(0, 300, 1)).tiles(100, 0), 2);
        Edge.due("300 and 359", Edge.of(Edge.t(0, 300, 1), Edge.t(0, 359, 1)).tiles(100, 0), 1);
        Edge.due("359 and 0", Edge.of(Edge.t(0, 359, 1), Edge.t(0, 0, 1)).tiles(100, 0), 2);
        Edge.due("99 and 100", Edge.of(Edge.t(0, 99, 1), Edge.t(0, 100, 1)).tiles(100, 0), 2);
        Edge.due("0 and 99", Edge.of(Edge.t(0, 0, 1), Edge.t(0, 99, 1)).tiles(100, 0), 1);
    }

    // ---- Promise 54: cone

    /** Promise 54: "CONE (r 1 .. 200)". */
    static void p54_r() {
        JetTrees x = Edge.five();
        Edge.due("r 1", x.cone(0, 0, 1, 0), 1);
        Edge.due("r 200", x.cone(0, 0, 200, 0), 5);
        bad("r", -1, r -> x.cone(0, 0, r, 0), 0, 201, -1);
    }

    /** Promise 54, Terms: "ACROSS -200 .. 200": of the PLACE that it is about. */
    static void p54_across() {
        JetTrees x = Edge.of(Edge.t(-200, 0, 1), Edge.t(200, 0, 2));
        Edge.due("-200", x.cone(-200, 0, 1, 1), 1);
        Edge.due("200", x.cone(200, 0, 1, 1), 2);
        bad("ACROSS", -1, across -> x.cone(across, 0, 200, 0), -201, 201);
    }

    /** Promise 54, Terms: "ROUND 0 .. 359 (going round)": of the PLACE that it is about. */
    static void p54_round() {
        JetTrees x = Edge.of(Edge.t(0, 0, 1), Edge.t(0, 359, 2));
        Edge.due("0", x.cone(0, 0, 1, 1), 3);
        Edge.due("359", x.cone(0, 359, 1, 1), 3);
        Edge.due("1", x.cone(0, 1, 1, 1), 1);
        Edge.due("358", x.cone(0, 358, 1, 1), 2);
        bad("ROUND", -1, round -> x.cone(0, round, 200, 0), -1, 360);
    }

    /** Promise 54: "how many TRACKS (what 0)" .. "STEADY (2: 1, 0). NONE for others." */
    static void p54_what() {
        JetTrees x = Edge.five();
        Edge.due("what 0", x.cone(0, 1, 4, 0), 3);
        Edge.due("what 1", x.cone(0, 1, 4, 1), 200);
        Edge.due("what 2", x.cone(0, 1, 4, 2), 1);
        bad("what", -1, what -> x.cone(0, 1, 4, what), -1, 3);
    }

    /** Promise 54, II: "TRACKS whose SQUARE to it is r times itself at most": just as much is in it. */
    static void p54_justAsMuch() {
        JetTrees x = Edge.of(Edge.t(3, 4, 1));
        Edge.due("25, r 5", x.cone(0, 0, 5, 0), 1);
        Edge.due("26, r 5", x.cone(-2, 5, 5, 0), 0);
        Edge.due("26 past the last degree, r 5", x.cone(4, 359, 5, 0), 0);
        Edge.due("25, r 4", x.cone(0, 0, 4, 0), 0);
        JetTrees far = Edge.of(Edge.t(200, 0, 1));
        Edge.due("200 away, r 200", far.cone(0, 0, 200, 0), 1);
        Edge.due("201 away, r 200", far.cone(-1, 0, 200, 0), 0);
        Edge.due("200 away and 1 ROUND, r 200", far.cone(0, 1, 200, 0), 0);
    }

    /** Promise 54, II: "(without TRACKS: not)": a CONE without TRACKS isn't STEADY, and has no WEIGHT. */
    static void p54_withoutTracks() {
        Edge.due("none at all", NEW.cone(0, 0, 200, 0), 0);
        Edge.due("none at all", NEW.cone(0, 0, 200, 1), 0);
        Edge.due("none at all", NEW.cone(0, 0, 200, 2), 0);
        JetTrees x = Edge.of(Edge.t(0, 0, 1));
        Edge.due("none in it", x.cone(9, 9, 1, 0), 0);
        Edge.due("none in it", x.cone(9, 9, 1, 1), 0);
        Edge.due("none in it", x.cone(9, 9, 1, 2), 0);
    }

    /** Promise 54, II: "is its own": PLACE beside it isn't; one TRACK is about itself alone. */
    static void p54_itsOwn() {
        JetTrees x = Edge.of(Edge.t(7, 359, 5));
        Edge.due("its own", x.cone(7, 359, 3, 2), 1);
        Edge.due("1 off ACROSS", x.cone(8, 359, 3, 2), 0);
        Edge.due("1 off ROUND", x.cone(7, 0, 3, 2), 0);
    }

    /** Promise 54, II: "JOINED one behind the other by numbers (the first as it is; what is JOINED so far is the first of two)". */
    static void p54_byNumbers() {
        // 0 and 10 are 5, then from 5 to 359 (6 back by a third, downward): 3.
        JetTrees y = Edge.of(Edge.t(0, 0, 10), Edge.t(0, 10, 10), Edge.t(0, 359, 10));
        Edge.due("0, 10, then 359", y.cone(0, 3, 30, 2), 1);
        // 0 and 359 are 359 (1 back by half, downward), then from 359 to 10 (11 on by a third, downward): 2.
        JetTrees z = Edge.of(Edge.t(0, 0, 10), Edge.t(0, 359, 10), Edge.t(0, 10, 10));
        Edge.due("0, 359, then 10", z.cone(0, 2, 30, 2), 1);
        Edge.due("0, 359, then 10", z.cone(0, 3, 30, 2), 0);
    }

    // ---- Promise 55: still

    /** Promise 55: "STILL CONES by r (1 .. 200)". */
    static void p55_r() {
        JetTrees x = Edge.of(Edge.t(0, 0, 1), Edge.t(1, 0, 1), Edge.t(0, 180, 1));
        row("r 1", i -> x.still(1, i), 3, 4);
        Edge.due("r 200", x.still(200, -1) > 0, true);
        bad("r, how many", -1, r -> x.still(r, -1), 0, 201, -1);
        bad("r, the first", -1, r -> x.still(r, 0), 0, 201, -1);
    }

    /** Promise 55: "how many (i NONE); the i-th: TRACKS (bits). NONE for others.": i beside those that there are. */
    static void p55_i() {
        JetTrees x = Edge.five();
        row("still", i -> x.still(4, i), 7, 3, 8, 16);
        bad("i", -1, i -> x.still(4, i), -2, 4, 40);
        Edge.due("the 40th of 40", Edge.many(40).still(1, 39), 1L << 39);
        Edge.due("the 41st of 40", Edge.many(40).still(1, 40), -1);
    }

    /** Promise 55: "STILL CONES by r": without TRACKS none; of one TRACK its own. */
    static void p55_noneAndOne() {
        row("without TRACKS", i -> NEW.still(9, i));
        row("one TRACK", i -> Edge.of(Edge.t(-200, 359, 1)).still(200, i), 1);
    }

    /** Promise 55, II: "(each set once, as they come;": two TRACKS that come to one set, and that of the first TRACK first. */
    static void p55_eachSetOnce() {
        JetTrees x = Edge.of(Edge.t(100, 0, 1), Edge.t(0, 0, 1), Edge.t(1, 0, 1), Edge.t(101, 0, 1));
        row("still", i -> x.still(5, i), 9, 6);
        JetTrees like = Edge.of(Edge.t(5, 5, 1), Edge.t(5, 5, 1), Edge.t(5, 5, 9));
        row("on one PLACE", i -> like.still(1, i), 7);
    }

    /** Promise 55, II: "from each TRACK, by numbers: its PLACE": it may be STEADY at once. */
    static void p55_atOnce() {
        JetTrees x = Edge.of(Edge.t(0, 0, 1), Edge.t(-4, 0, 1), Edge.t(4, 0, 1));
        Edge.due("STEADY about 0", x.cone(0, 0, 4, 2), 1);
        Edge.due("the first set", x.still(4, 0), 7);
    }

    /** How often it is gone on from TRACK 0, by r, until the CONE is STEADY: reckoned here by itself. */
    private static int goingsOn(int[][] tracks, int r) {
        int across = tracks[0][0];
        int round = tracks[0][1];
        for (int gone = 0; gone < 100; gone++) {
            long a = 0;
            long o = 0;
            long weight = 0;
            for (int[] t : tracks) {
                int way = Math.abs(t[1] - round);
                way = Math.min(way, 360 - way);
                if ((t[0] - across) * (t[0] - across) + way * way <= r * r) {
                    long both = weight + t[2];
                    long on = Math.floorMod(t[1] - o, 360L);
                    long signed = on > 180 ? on - 360 : on;
                    a = weight == 0 ? t[0] : Math.floorDiv(weight * a + (long) t[2] * t[0], both);
                    o = weight == 0 ? t[1] : Math.floorMod(o + Math.floorDiv(t[2] * signed, both), 360L);
                    weight = both;
                }
            }
            if (a == across && o == round) {
                return gone;
            }
            across = (int) a;
            round = (int) o;
        }
        return -1;
    }

    /** TRACKS in a line, heavier and heavier, that the CONE climbs along from TRACK 0; TRACK 1 stands far off. */
    private static final int[][] TWENTY = {{-200, 0, 26}, {200, 180, 37}, {-180, 1, 48}, {-170, 0, 59}, {-160, 1, 70},
        {-150, 2, 81}, {-140, 1, 92}, {-130, 2, 103}, {-120, 1, 114}, {-110, 1, 125}, {-100, 0, 136}, {-90, 1, 147},
        {-80, 0, 158}, {-70, 0, 169}, {-60, 0, 180}, {-50, 2, 191}, {-40, 0, 202}, {-30, 0, 213}};
    private static final int[][] MORE = {{-200, 0, 28}, {200, 180, 36}, {-186, 0, 44}, {-179, 1, 52}, {-172, 0, 60},
        {-165, 1, 68}, {-158, 1, 76}, {-151, 2, 84}, {-144, 1, 92}, {-137, 1, 100}, {-130, 0, 108}, {-123, 2, 116},
        {-116, 0, 124}, {-109, 2, 132}, {-102, 0, 140}, {-95, 2, 148}, {-88, 2, 156}, {-81, 2, 164}, {-74, 1, 172}};

    /** Promise 55, II: "up to 20 times gone on with the PLACE": the 20th time it is STEADY, so its TRACKS are the first set. */
    static void p55_20TimesGoneOn() {
        Edge.due("times gone on", goingsOn(TWENTY, 43), 20);
        Edge.due("the first set", Edge.of(TWENTY).still(43, 0), 261120);
        Edge.due("then that of TRACK 1", Edge.of(TWENTY).still(43, 1), 2);
    }

    /** Promise 55, II: "not STEADY in 20: none)": the 21st time it would be. */
    static void p55_21TimesAreTooMany() {
        Edge.due("times gone on", goingsOn(MORE, 34), 21);
        Edge.due("TRACK 0 has none: that of TRACK 1 is the first", Edge.of(MORE).still(34, 0), 2);
    }

    // ---- Promise 56: patch

    /** Promise 56, II: "SHARED OUT by r and F (0 .. 1000)": F. */
    static void p56_f() {
        JetTrees x = Edge.five();
        Edge.due("F 0", x.patch(4, 0, -1), 3);
        Edge.due("F 1000", x.patch(4, 1000, -1), 3);
        bad("F, how many", -1, f -> x.patch(4, f, -1), -1, 1001);
        bad("F, the first", -1, f -> x.patch(4, f, 0), -1, 1001);
    }

    /** Promise 56, promise 55: "STILL CONES by r (1 .. 200)": r. */
    static void p56_r() {
        JetTrees x = Edge.five();
        Edge.due("r 1", x.patch(1, 500, -1), 5);
        Edge.due("r 200", x.patch(200, 500, -1) > 0, true);
        bad("r, how many", -1, r -> x.patch(r, 500, -1), 0, 201, -1);
        bad("r, the first", -1, r -> x.patch(r, 500, 0), 0, 201, -1);
    }

    /** Promise 56: "how many PATCHES (i NONE); the i-th, as they come: TRACKS (bits). NONE for others." */
    static void p56_i() {
        JetTrees x = Edge.five();
        row("patch", i -> x.patch(4, 500, i), 7, 16, 8);
        bad("i", -1, i -> x.patch(4, 500, i), -2, 3, 40);
    }

    /** Promise 56: "how many PATCHES (i NONE)": without TRACKS none, of 40 TRACKS apart 40, the heaviest first. */
    static void p56_noneAnd40() {
        row("without TRACKS", i -> NEW.patch(9, 500, i));
        JetTrees x = Edge.many(40);
        Edge.due("40", x.patch(1, 0, -1), 40);
        Edge.due("the first", x.patch(1, 0, 0), 1L << 39);
        Edge.due("the last", x.patch(1, 0, 39), 1);
        Edge.due("no more", x.patch(1, 0, 40), -1);
    }

    /** Promise 56, II: "the one with the greatest WEIGHT, of like ones the first one (ONE)": as they come. */
    static void p56_likeOnes() {
        JetTrees x = Edge.of(Edge.t(50, 0, 20), Edge.t(-50, 0, 10), Edge.t(0, 90, 20), Edge.t(0, 180, 30));
        row("patch", i -> x.patch(3, 500, i), 8, 1, 4, 2);
    }

    /** About (1, 0) stands the set of 0 and 2, about (0, 1) that of 0 and 1: both weigh 60, TRACK 0 is as near to both. */
    private static JetTrees likeSets() {
        JetTrees x = Edge.of(Edge.t(0, 0, 30), Edge.t(0, 3, 30), Edge.t(3, 0, 30));
        row("still", i -> x.still(3, i), 5, 3);
        return x;
    }

    /** Promise 56, II: "if the WEIGHT they share times 1000 is F times the lesser WEIGHT of both or more": just as much. */
    static void p56_justAsMuch() {
        JetTrees x = likeSets();
        row("30 of 60, F 0", i -> x.patch(3, 0, i), 7);
        row("30 of 60, F 500", i -> x.patch(3, 500, i), 7);
        row("30 of 60, F 501", i -> x.patch(3, 501, i), 5, 2);
        row("30 of 60, F 1000", i -> x.patch(3, 1000, i), 5, 2);
    }

    /** Promise 56, II: "nearer (SQUARE), of like ones in ONE": which of like WEIGHTS is the first one. */
    static void p56_asNear() {
        JetTrees x = likeSets();
        Edge.due("TRACK 0 stays in ONE", x.patch(3, 501, 0), 5);
        Edge.due("OTHER is without it", x.patch(3, 501, 1), 2);
    }

    /** Promise 56, II: "F times the lesser WEIGHT of both or more": a set in the other one, F 1000. */
    static void p56_oneInTheOther() {
        JetTrees x = Edge.of(Edge.t(0, 0, 20), Edge.t(1, 0, 30), Edge.t(4, 0, 30));
        row("still", i -> x.still(3, i), 3, 7);
        row("50 of 50, F 700", i -> x.patch(3, 700, i), 7);
        row("50 of 50, F 1000", i -> x.patch(3, 1000, i), 7);
    }

    /** Promise 56, II: "of those that share TRACKS with it likewise (OTHER)": of like ones the first one. */
    static void p56_likeOthers() {
        // ONE is {0, 1, 2} (50), behind {0, 2} and {1, 3} (40 both). {0, 2} is JOINED with it first. Then TRACK 1 goes
        // to {1, 3}: it and what is left of ONE weigh 40 both, and it comes ahead.
        JetTrees x = Edge.of(Edge.t(-1, 0, 30), Edge.t(3, 4, 10), Edge.t(1, 0, 10), Edge.t(2, 8, 30));
        row("still", i -> x.still(5, i), 5, 10, 7);
        row("F 1000", i -> x.patch(5, 1000, i), 10, 5);
    }

    /** Promise 56, II: "ONE has all of both (where it stands), OTHER is gone": ahead of those that it stood ahead of. */
    static void p56_whereItStands() {
        // {0, 3} goes into {0, 1, 3}, ahead of {1, 2}. Then TRACK 1 goes to {1, 2}: both weigh 50.
        JetTrees x = Edge.of(Edge.t(-1, 0, 20), Edge.t(1, 4, 30), Edge.t(4, 4, 20), Edge.t(1, 0, 30));
        row("still", i -> x.still(4, i), 9, 11, 6);
        row("F 700", i -> x.patch(4, 700, i), 9, 6);
    }

    /** Promise 56, II: "(as of a CONE, of all its TRACKS ahead of this)": TRACK 1 is settled as if TRACK 0 weren't. */
    static void p56_aheadOfThis() {
        // {0, 1, 2} is about (-1, 0), {0, 1, 3} about (0, 0): TRACK 0 stays in the one, TRACK 1 in the other.
        JetTrees x = Edge.of(Edge.t(-2, 0, 30), Edge.t(0, 0, 30), Edge.t(-1, 2, 30), Edge.t(2, 0, 30));
        row("still", i -> x.still(2, i), 7, 11, 4, 10);
        row("F 1000", i -> x.patch(2, 1000, i), 5, 10);
    }

    /** Promise 56, II: "Without OTHER, ONE is a PATCH, and gone.": sets that share nothing, however near. */
    static void p56_withoutOther() {
        JetTrees x = Edge.of(Edge.t(0, 0, 10), Edge.t(2, 0, 20));
        row("F 0", i -> x.patch(1, 0, i), 2, 1);
    }

    /** Promise 56, II: "a set without TRACKS is gone": no PATCH is without TRACKS, and no TRACK is in two of them. */
    static void p56_noneWithoutTracks() {
        for (int run = 0; run < 40; run++) {
            JetTrees x = new JetTrees();
            x.tell(700 * run);
            x.drawn(0, 0, 5 + run, 20);
            for (int f = 0; f <= 1000; f += 500) {
                long seen = 0;
                long patches = x.patch(8 + run / 2, f, -1);
                for (int i = 0; i < patches; i++) {
                    long patch = x.patch(8 + run / 2, f, i);
                    Edge.due("PATCH " + i + " has TRACKS of its own", patch != 0 && (patch & seen) == 0, true);
                    seen |= patch;
                }
            }
        }
    }

    // ---- Promise 57: pedestal

    /** Promise 57, II: "TILES of a size s (1 .. 100)". */
    static void p57_size() {
        JetTrees x = inTiles(100, 20, 20);
        Edge.due("100", x.pedestal(100), 110);
        Edge.due("1", x.pedestal(1), 0);
        bad("size", -1, x::pedestal, 0, 101, -1);
    }

    /** n TRACKS, each in a TILE of its own, of WEIGHTS 101, 102, .. The TILES ROUND are told through first. */
    private static JetTrees inTiles(int size, int n, int most) {
        int around = 359 / size + 1;
        int least = Math.floorDiv(-200, size);
        JetTrees x = new JetTrees();
        for (int i = 0; i < n && i < most; i++) {
            x.track(Math.max(-200, (least + i / around) * size), size * (i % around), 101 + i);
        }
        Edge.due("TILES with TRACKS", x.tiles(size, 0), n);
        return x;
    }

    /** Promise 57, II: "the middle one, of two the lesser": of 20 TILES the tenth, from both ends of ACROSS. */
    static void p57_of20() {
        Edge.due("10 with TRACKS", inTiles(100, 10, 20).pedestal(100), 0);
        Edge.due("11 with TRACKS", inTiles(100, 11, 20).pedestal(100), 101);
        Edge.due("19 with TRACKS", inTiles(100, 19, 20).pedestal(100), 109);
        Edge.due("20 with TRACKS", inTiles(100, 20, 20).pedestal(100), 110);
    }

    /** Promise 57, II: "of all TILES there can be (ACROSS -200 .. 200, ROUND)": 24 of size 99 and of 90. */
    static void p57_allThereCanBe() {
        Edge.due("size 99, 12 with TRACKS", inTiles(99, 12, 24).pedestal(99), 0);
        Edge.due("size 99, 13 with TRACKS", inTiles(99, 13, 24).pedestal(99), 101);
        Edge.due("size 99, 24 with TRACKS", inTiles(99, 24, 24).pedestal(99), 112);
        Edge.due("size 90, 12 with TRACKS", inTiles(90, 12, 24).pedestal(90), 0);
        Edge.due("size 90, 13 with TRACKS", inTiles(90, 13, 24).pedestal(90), 101);
        Edge.due("size 72, 15 with TRACKS", inTiles(72, 15, 30).pedestal(72), 0);
        Edge.due("size 72, 16 with TRACKS", inTiles(72, 16, 30).pedestal(72), 101);
        Edge.due("size 50, 36 with TRACKS", inTiles(50, 36, 40).pedestal(50), 0);
        Edge.due("size 50, 37 with TRACKS", inTiles(50, 37, 40).pedestal(50), 101);
        Edge.due("size 50, 40 with TRACKS", inTiles(50, 40, 40).pedestal(50), 104);
        Edge.due("size 40, 40 with TRACKS", inTiles(40, 40, 40).pedestal(40), 0);
    }

    /** Promise 57: "PEDESTAL.": without TRACKS 0. */
    static void p57_withoutTracks() {
        Edge.due("100", NEW.pedestal(100), 0);
        Edge.due("1", NEW.pedestal(1), 0);
    }

    /** Promise 57, II: "the WEIGHTS of their TRACKS together, by size": of more than one in a TILE, and of like ones. */
    static void p57_together() {
        JetTrees x = inTiles(100, 20, 20);
        x.track(-200, 0, 9999);
        Edge.due("the least is the greatest now", x.pedestal(100), 111);
        for (int t = 0; t < 21; t++) {
            x.weigh(t, 7);
        }
        Edge.due("like ones", x.pedestal(100), 7);
    }

    // ---- Promise 59: balance

    /** Promise 59: "BALANCE. 0 for others.", Terms: "ROUND 0 .. 359". */
    static void p59_round() {
        JetTrees x = Edge.of(Edge.t(0, 0, 5));
        Edge.due("0", x.balance(0), 5);
        Edge.due("359", x.balance(359), 5);
        bad("ROUND", 0, x::balance, -1, 360);
    }

    /** Promise 59, II: "WEIGHTS of TRACKS to which the lesser way is less than 90": 89 is, 90 isn't, on both sides. */
    static void p59_lessThan90() {
        JetTrees x = Edge.of(Edge.t(0, 180, 5));
        Edge.due("89 ahead", x.balance(91), 5);
        Edge.due("90 ahead", x.balance(90), -5);
        Edge.due("89 behind", x.balance(269), 5);
        Edge.due("90 behind", x.balance(270), -5);
        Edge.due("180 away", x.balance(0), -5);
    }

    /** Promise 59, II: "the lesser way": past the last degree. */
    static void p59_pastTheLastDegree() {
        JetTrees x = Edge.of(Edge.t(0, 0, 5));
        Edge.due("89", x.balance(89), 5);
        Edge.due("90", x.balance(90), -5);
        Edge.due("271", x.balance(271), 5);
        Edge.due("270", x.balance(270), -5);
        JetTrees y = Edge.of(Edge.t(0, 359, 5));
        Edge.due("88 to 359", y.balance(88), 5);
        Edge.due("89 to 359", y.balance(89), -5);
    }

    /** Promise 59, II: "less those of all others.": without TRACKS 0, of 40 the least and the greatest. */
    static void p59_leastAndGreatest() {
        Edge.due("without TRACKS", NEW.balance(0), 0);
        JetTrees x = new JetTrees();
        for (int i = 0; i < 40; i++) {
            x.track(0, 0, 9999);
        }
        Edge.due("the greatest", x.balance(0), 399960);
        Edge.due("the least", x.balance(180), -399960);
    }

    // ---- Promise 60: axis

    /** Promise 60: "AXIS.", II: "the ROUND with the greatest, of like ones the least.": without TRACKS all are like: 0. */
    static void p60_withoutTracks() {
        Edge.due("axis()", NEW.axis(), 0);
    }

    /** Promise 60, II: "of like ones the least.": of ROUNDS past the last degree 0 is the least. */
    static void p60_likeOnes() {
        Edge.due("about 89: 0 to 178", Edge.of(Edge.t(0, 89, 5)).axis(), 0);
        Edge.due("about 90: 1 to 179", Edge.of(Edge.t(0, 90, 5)).axis(), 1);
        Edge.due("about 0: 271 to 89", Edge.of(Edge.t(0, 0, 5)).axis(), 0);
        Edge.due("about 270: 181 to 359", Edge.of(Edge.t(0, 270, 5)).axis(), 181);
        Edge.due("about 271: 182 to 0", Edge.of(Edge.t(0, 271, 5)).axis(), 0);
        Edge.due("0 and 180: like everywhere but at 90 and 270", Edge.of(Edge.t(0, 0, 5), Edge.t(0, 180, 5)).axis(), 0);
    }

    /** Promise 60, II: "the ROUND with the greatest": the last degree alone. */
    static void p60_theLastDegree() {
        JetTrees x = Edge.of(Edge.t(0, 270, 5), Edge.t(0, 88, 5));
        Edge.due("270 and 88: 359 alone", x.axis(), 359);
        Edge.due("both", x.balance(359), 10);
        JetTrees y = Edge.of(Edge.t(0, 271, 5), Edge.t(0, 89, 5));
        Edge.due("271 and 89: 0 alone", y.axis(), 0);
    }
}
