/** Promises 51 to 57, 59 and 60: SPANNED, GAP, TILES, CONES, what is SHARED OUT, PEDESTAL, BALANCE, AXIS. */
public final class LyingTest {
    public static void main(String[] args) {
        spanned();
        gaps();
        tiles();
        cones();
        still();
        sharedOut();
        pedestals();
        balances();
        Check.end("LyingTest");
    }

    private static JetTrees of(int[]... tracks) {
        JetTrees x = new JetTrees();
        for (int[] t : tracks) {
            x.track(t[0], t[1], t[2]);
        }
        return x;
    }

    private static void spanned() {
        JetTrees x = TreesTest.five();
        Check.due(51, "how many", x.span(-1, 0), 4);
        int[][] twos = {{0, 1, 9}, {0, 2, 16}, {3, 4, 25}, {2, 3, 19216}};
        for (int i = 0; i < 4; i++) {
            for (int what = 0; what < 3; what++) {
                Check.due(51, "span(" + i + ", " + what + ")", x.span(i, what), twos[i][what]);
            }
        }
        int[][] wrong = {{-1, 1}, {-1, 2}, {-1, -1}, {4, 0}, {-2, 0}, {0, 3}, {0, -1}};
        for (int[] w : wrong) {
            Check.due(51, "span(" + w[0] + ", " + w[1] + ")", x.span(w[0], w[1]), -1);
        }
        Check.due(51, "without TRACKS", new JetTrees().span(-1, 0), 0);
        JetTrees one = of(new int[] {0, 0, 1});
        Check.due(51, "one TRACK", one.span(-1, 0), 0);
        Check.due(51, "one TRACK", one.span(0, 0), -1);
        // A SQUARE of four like sides: which come ahead, then no way round.
        JetTrees y = of(new int[] {2, 2, 1}, new int[] {2, 0, 1}, new int[] {0, 2, 1}, new int[] {0, 0, 1});
        int[][] sides = {{3, 2, 4}, {3, 1, 4}, {2, 0, 4}};
        Check.due(51, "how many", y.span(-1, 0), 3);
        for (int i = 0; i < 3; i++) {
            for (int what = 0; what < 3; what++) {
                Check.due(51, "side span(" + i + ", " + what + ")", y.span(i, what), sides[i][what]);
            }
        }
    }

    private static void gaps() {
        JetTrees x = TreesTest.five();
        Check.due(52, "gap(0)", x.gap(0), 260);
        Check.due(52, "gap(1)", x.gap(1), 100);
        Check.due(52, "gap(2)", x.gap(2), -1);
        Check.due(52, "gap(-1)", x.gap(-1), -1);
        Check.due(52, "without TRACKS", new JetTrees().gap(0), -1);
        Check.due(52, "without TRACKS", new JetTrees().gap(1), -1);
        JetTrees one = of(new int[] {0, 77, 1}, new int[] {5, 77, 1});
        Check.due(52, "just one ROUND", one.gap(0), 360);
        Check.due(52, "just one ROUND", one.gap(1), 77);
        JetTrees like = of(new int[] {0, 300, 1}, new int[] {5, 180, 1}, new int[] {0, 60, 1});
        Check.due(52, "of like ones", like.gap(0), 120);
        Check.due(52, "the least ROUND", like.gap(1), 60);
    }

    private static void tiles() {
        JetTrees x = TreesTest.five();
        Check.due(53, "size 3", x.tiles(3, 0), 5);
        Check.due(53, "size 3, most", x.tiles(3, 1), 1);
        Check.due(53, "size 5", x.tiles(5, 0), 3);
        Check.due(53, "size 5, most", x.tiles(5, 1), 3);
        Check.due(53, "size 100", x.tiles(100, 0), 2);
        Check.due(53, "size 1", x.tiles(1, 0), 5);
        Check.due(53, "size 0", x.tiles(0, 0), -1);
        Check.due(53, "size 101", x.tiles(101, 0), -1);
        Check.due(53, "size -5", x.tiles(-5, 0), -1);
        Check.due(53, "what 2", x.tiles(5, 2), -1);
        Check.due(53, "what -1", x.tiles(5, -1), -1);
        JetTrees y = of(new int[] {-1, 0, 1}, new int[] {0, 0, 1}, new int[] {-10, 9, 1}, new int[] {-11, 9, 1});
        Check.due(53, "downward below 0", y.tiles(10, 0), 3);
        Check.due(53, "two in one", y.tiles(10, 1), 2);
        Check.due(53, "without TRACKS", new JetTrees().tiles(9, 0), 0);
        Check.due(53, "without TRACKS", new JetTrees().tiles(9, 1), 0);
    }

    private static void cones() {
        JetTrees x = TreesTest.five();
        Check.due(54, "TRACKS, r 4", x.cone(0, 0, 4, 0), 3);
        Check.due(54, "WEIGHTS, r 4", x.cone(0, 0, 4, 1), 200);
        Check.due(54, "not STEADY", x.cone(0, 0, 4, 2), 0);
        Check.due(54, "STEADY", x.cone(0, 1, 4, 2), 1);
        Check.due(54, "TRACKS, r 3", x.cone(0, 0, 3, 0), 2);
        Check.due(54, "WEIGHTS, r 3", x.cone(0, 0, 3, 1), 150);
        Check.due(54, "none in it", x.cone(50, 50, 3, 0), 0);
        Check.due(54, "none in it", x.cone(50, 50, 3, 1), 0);
        Check.due(54, "none in it: not STEADY", x.cone(50, 50, 3, 2), 0);
        int[][] wrong = {{201, 0, 5, 0}, {-201, 0, 5, 0}, {0, 360, 5, 0}, {0, -1, 5, 0}, {0, 0, 0, 0}, {0, 0, 201, 0},
            {0, 0, 5, 3}, {0, 0, 5, -1}};
        for (int[] w : wrong) {
            Check.due(54, "a wrong cone", x.cone(w[0], w[1], w[2], w[3]), -1);
        }
        JetTrees y = of(new int[] {0, 358, 10}, new int[] {0, 2, 10});
        Check.due(54, "about ROUND 0", y.cone(0, 0, 2, 0), 2);
        Check.due(54, "about ROUND 0: STEADY", y.cone(0, 0, 2, 2), 1);
        // By numbers, not as they come ahead: from 3 back by 10 of 20 is -1.5, downward -2; from 0 on it is 1.
        JetTrees z = of(new int[] {0, 3, 10}, new int[] {0, 0, 10});
        Check.due(54, "the first by number is the first of two", z.cone(0, 1, 9, 2), 1);
        Check.due(54, "three: one behind the other", of(new int[] {0, 0, 1}, new int[] {0, 1, 1}, new int[] {0, 3, 1})
            .cone(0, 1, 9, 2), 1);
    }

    private static void still() {
        JetTrees x = TreesTest.five();
        long[] sets = {7, 3, 8, 16};
        Check.due(55, "how many", x.still(4, -1), 4);
        for (int i = 0; i < 4; i++) {
            Check.due(55, "still(4, " + i + ")", x.still(4, i), sets[i]);
        }
        Check.due(55, "still(4, 4)", x.still(4, 4), -1);
        Check.due(55, "still(4, -2)", x.still(4, -2), -1);
        Check.due(55, "r 0", x.still(0, -1), -1);
        Check.due(55, "r 201", x.still(201, -1), -1);
        Check.due(55, "without TRACKS", new JetTrees().still(5, -1), 0);
        Check.due(55, "without TRACKS", new JetTrees().still(5, 0), -1);
        goneOn();
    }

    /** TRACKS in a line, heavier and heavier: from the first one the CONE climbs long. TRACK 1 stands far off. */
    private static void goneOn() {
        JetTrees twenty = of(new int[][] {{-200, 0, 26}, {200, 180, 37}, {-180, 1, 48}, {-170, 0, 59}, {-160, 1, 70},
            {-150, 2, 81}, {-140, 1, 92}, {-130, 2, 103}, {-120, 1, 114}, {-110, 1, 125}, {-100, 0, 136}, {-90, 1, 147},
            {-80, 0, 158}, {-70, 0, 169}, {-60, 0, 180}, {-50, 2, 191}, {-40, 0, 202}, {-30, 0, 213}});
        Check.due(55, "gone on 20 times: STEADY", twenty.still(43, 0), 261120);
        Check.due(55, "then that of TRACK 1", twenty.still(43, 1), 2);
        JetTrees more = of(new int[][] {{-200, 0, 28}, {200, 180, 36}, {-186, 0, 44}, {-179, 1, 52}, {-172, 0, 60},
            {-165, 1, 68}, {-158, 1, 76}, {-151, 2, 84}, {-144, 1, 92}, {-137, 1, 100}, {-130, 0, 108}, {-123, 2, 116},
            {-116, 0, 124}, {-109, 2, 132}, {-102, 0, 140}, {-95, 2, 148}, {-88, 2, 156}, {-81, 2, 164}, {-74, 1, 172}});
        Check.due(55, "it would be 21 times: none", more.still(34, 0), 2);
        Check.due(55, "from others it is", more.still(34, 1) == 523264 || more.still(34, 2) == 523264, true);
    }

    private static void sharedOut() {
        JetTrees x = TreesTest.five();
        long[] patches = {7, 16, 8};
        Check.due(56, "a set in a set is JOINED", x.patch(4, 1000, -1), 3);
        for (int i = 0; i < 3; i++) {
            Check.due(56, "by WEIGHT", x.patch(4, 1000, i), patches[i]);
        }
        Check.due(56, "patch(4, 500, 3)", x.patch(4, 500, 3), -1);
        Check.due(56, "patch(4, 500, -2)", x.patch(4, 500, -2), -1);
        Check.due(56, "r 0", x.patch(0, 500, -1), -1);
        Check.due(56, "r 201", x.patch(201, 500, -1), -1);
        Check.due(56, "f -1", x.patch(5, -1, -1), -1);
        Check.due(56, "f 1001", x.patch(5, 1001, -1), -1);
        // 0 and 2 stand about (3, 0), 1 and 2 about (-2, 2): TRACK 2, half of the lesser, is nearer to the latter.
        JetTrees y = of(new int[] {4, 0, 30}, new int[] {-3, 4, 10}, new int[] {0, 0, 10});
        Check.due(55, "two sets", y.still(5, -1), 2);
        Check.due(55, "the first", y.still(5, 0), 5);
        Check.due(55, "the second", y.still(5, 1), 6);
        Check.due(56, "f 0: JOINED", y.patch(5, 0, -1), 1);
        Check.due(56, "f 500: just JOINED", y.patch(5, 500, 0), 7);
        Check.due(56, "f 501: shared out", y.patch(5, 501, -1), 2);
        Check.due(56, "the one", y.patch(5, 501, 0), 1);
        Check.due(56, "the other", y.patch(5, 501, 1), 6);
        Check.due(56, "without TRACKS", new JetTrees().patch(5, 5, -1), 0);
    }

    private static void pedestals() {
        // Of size 100 there are 5 times 4 TILES: the middle one is the tenth.
        JetTrees x = new JetTrees();
        for (int i = 0; i < 20; i++) {
            x.track(-200 + 100 * (i / 4), 100 * (i % 4), 100 + i);
            int want = i < 10 ? 0 : 100 + (i - 10);
            Check.due(57, i + 1 + " TILES with TRACKS", x.pedestal(100), want);
        }
        Check.due(57, "the tenth of twenty", x.pedestal(100), 109);
        x.track(199, 359, 1000);
        Check.due(57, "WEIGHTS in one TILE together", x.pedestal(100), 109);
        x.track(-200, 0, 1000);
        Check.due(57, "WEIGHTS in one TILE together", x.pedestal(100), 110);
        // Of size 99: -3 .. 2 times 0 .. 3, so 24.
        Check.due(57, "size 99", x.pedestal(99), new JetTrees().pedestal(99) + middle(x, 99));
        Check.due(57, "size 1", x.pedestal(1), 0);
        Check.due(57, "size 0", x.pedestal(0), -1);
        Check.due(57, "size 101", x.pedestal(101), -1);
        Check.due(57, "size -1", x.pedestal(-1), -1);
        Check.due(57, "without TRACKS", new JetTrees().pedestal(50), 0);
    }

    private static int middle(JetTrees x, int size) {
        int[] weights = new int[6 * 4];
        for (int t = 0; t < x.is(3); t++) {
            weights[(Math.floorDiv(x.of(t, 0), size) + 3) * 4 + x.of(t, 1) / size] += x.of(t, 2);
        }
        java.util.Arrays.sort(weights);
        return weights[11];
    }

    private static void balances() {
        JetTrees x = of(new int[] {0, 10, 100}, new int[] {50, 200, 30});
        Check.due(59, "89 away", x.balance(99), 100 - 30 * (101 < 90 ? -1 : 1));
        Check.due(59, "90 away counts among others", x.balance(100), -130);
        Check.due(59, "both sides", x.balance(111), -100 + 30);
        Check.due(59, "across ROUND 0", x.balance(281), 100 + 30);
        Check.due(59, "360", x.balance(360), 0);
        Check.due(59, "-1", x.balance(-1), 0);
        Check.due(59, "without TRACKS", new JetTrees().balance(5), 0);
        Check.due(60, "AXIS: 281 has both", x.axis(), 281);
        Check.due(60, "the least of like ones", of(new int[] {0, 100, 5}).axis(), 11);
        Check.due(60, "ROUND 1", of(new int[] {0, 90, 5}).axis(), 1);
        Check.due(60, "the least of like ones, about 0", of(new int[] {0, 10, 5}).axis(), 0);
        Check.due(60, "the heavier side", of(new int[] {0, 0, 5}, new int[] {0, 180, 6}).axis(), 91);
        Check.due(60, "without TRACKS", new JetTrees().axis(), 0);
    }
}
