/** Promises 20 to 32, 10, 39 and 40: how TREES are GATHERED, asked and cut, and CUTS that are KEPT. */
public final class TreesTest {
    public static void main(String[] args) {
        whole();
        steps();
        cuts();
        marks();
        kept();
        joinedPlaces();
        ties();
        powers();
        fractions();
        Check.end("TreesTest");
    }

    /** 0 and 1 are KNOT 5, with 2 they are KNOT 6; 3 and 4 are KNOT 7. */
    static JetTrees five() {
        JetTrees x = new JetTrees();
        x.set(1, 0);
        x.set(0, 10);
        x.track(0, 0, 100);
        x.track(3, 0, 50);
        x.track(0, 4, 50);
        x.track(100, 100, 30);
        x.track(105, 100, 40);
        x.gather(0);
        return x;
    }

    private static void whole() {
        JetTrees x = five();
        int[] tree = {8, 5, 2, 5, 10, 0, 0};
        for (int what = 0; what < 7; what++) {
            Check.due(20, "tree(0, " + what + ")", x.tree(0, what), tree[what]);
        }
        Check.due(20, "tree(0, 7)", x.tree(0, 7), -2);
        Check.due(20, "tree(0, -1)", x.tree(0, -1), -2);
        Check.due(20, "tree(1, 0)", x.tree(1, 0), -2);
        Check.due(20, "tree(4, 0)", x.tree(4, 0), -2);
        Check.due(20, "tree(-1, 0)", x.tree(-1, 0), -2);
        int[][] knots = {{0, 0, 100, -1, -1, 5, -1, 0}, {3, 0, 50, -1, -1, 5, -1, 0}, {0, 4, 50, -1, -1, 6, -1, 1},
            {100, 100, 30, -1, -1, 7, -1, 2}, {105, 100, 40, -1, -1, 7, -1, 2}, {1, 0, 150, 0, 1, 6, 0, 1},
            {0, 1, 200, 2, 5, -1, 1, 3}, {102, 100, 70, 3, 4, -1, 2, 4}};
        long[] leaves = {1, 2, 4, 8, 16, 3, 7, 24};
        for (int k = 0; k < 8; k++) {
            for (int what = 0; what < 8; what++) {
                Check.due(21, "knot(0, " + k + ", " + what + ")", x.knot(0, k, what), knots[k][what]);
            }
            Check.due(26, "leaves(0, " + k + ")", x.leaves(0, k), leaves[k]);
        }
        Check.due(21, "knot(0, 8, 0)", x.knot(0, 8, 0), -1000);
        Check.due(21, "knot(0, -1, 0)", x.knot(0, -1, 0), -1000);
        Check.due(21, "knot(0, 0, 8)", x.knot(0, 0, 8), -1000);
        Check.due(21, "knot(0, 0, -1)", x.knot(0, 0, -1), -1000);
        Check.due(21, "knot(1, 0, 0)", x.knot(1, 0, 0), -1000);
        Check.due(26, "leaves(0, 8)", x.leaves(0, 8), 0);
        Check.due(26, "leaves(0, -1)", x.leaves(0, -1), 0);
        Check.due(26, "leaves(1, 0)", x.leaves(1, 0), 0);
        Check.due(27, "jet(0, 0)", x.jet(0, 0), 6);
        Check.due(27, "jet(0, 1)", x.jet(0, 1), 7);
        Check.due(27, "jet(0, 2)", x.jet(0, 2), -1);
        Check.due(27, "jet(0, -1)", x.jet(0, -1), -1);
        Check.due(27, "jet(1, 0)", x.jet(1, 0), -1);
        int[] jetOf = {6, 6, 6, 7, 7, -1, -1};
        for (int t = 0; t < 7; t++) {
            Check.due(28, "jetOf(0, " + t + ")", x.jetOf(0, t), jetOf[t]);
        }
        Check.due(28, "jetOf(0, -1)", x.jetOf(0, -1), -1);
        Check.due(28, "jetOf(2, 0)", x.jetOf(2, 0), -1);
    }

    private static void steps() {
        JetTrees x = five();
        int[][] steps = {{0, 1, 5}, {2, 5, 6}, {3, 4, 7}, {6, -1, -1}, {7, -1, -1}};
        int[] ups = {9, 17, 25, 100, 100};
        for (int s = 0; s < 5; s++) {
            for (int what = 0; what < 3; what++) {
                Check.due(23, "step(0, " + s + ", " + what + ")", x.step(0, s, what), steps[s][what]);
            }
            Check.due(24, "up(0, " + s + ")", x.up(0, s), ups[s]);
            Check.due(25, "down(0, " + s + ")", x.down(0, s), 1);
        }
        Check.due(23, "step(0, 5, 0)", x.step(0, 5, 0), -2);
        Check.due(23, "step(0, -1, 0)", x.step(0, -1, 0), -2);
        Check.due(23, "step(0, 0, 3)", x.step(0, 0, 3), -2);
        Check.due(23, "step(0, 0, -1)", x.step(0, 0, -1), -2);
        Check.due(23, "step(1, 0, 0)", x.step(1, 0, 0), -2);
        Check.due(24, "up(0, 5)", x.up(0, 5), -1);
        Check.due(24, "up(0, -1)", x.up(0, -1), -1);
        Check.due(24, "up(1, 0)", x.up(1, 0), -1);
        Check.due(25, "down(0, 5)", x.down(0, 5), -1);
        Check.due(25, "down(0, -1)", x.down(0, -1), -1);
        Check.due(25, "down(1, 0)", x.down(1, 0), -1);
        Check.due(32, "together(0, 0, 1)", x.together(0, 0, 1), 0);
        Check.due(32, "together(0, 1, 0)", x.together(0, 1, 0), 0);
        Check.due(32, "together(0, 0, 2)", x.together(0, 0, 2), 1);
        Check.due(32, "together(0, 2, 1)", x.together(0, 2, 1), 1);
        Check.due(32, "together(0, 3, 4)", x.together(0, 3, 4), 2);
        Check.due(32, "together(0, 0, 3)", x.together(0, 0, 3), -1);
        Check.due(32, "together(0, 2, 2)", x.together(0, 2, 2), -1);
        Check.due(32, "together(0, 0, 5)", x.together(0, 0, 5), -1);
        Check.due(32, "together(0, -1, 0)", x.together(0, -1, 0), -1);
        Check.due(32, "together(1, 0, 1)", x.together(1, 0, 1), -1);
    }

    private static void row(int promise, String call, int[] got, int... want) {
        Check.due(promise, call + " how many", got.length, want.length);
        for (int i = 0; i < Math.min(got.length, want.length); i++) {
            Check.due(promise, call + " " + i, got[i], want[i]);
        }
    }

    private static int[] left(JetTrees x, int n) {
        int[] row = new int[Math.max(0, x.left(0, n, -1))];
        for (int i = 0; i < row.length; i++) {
            row[i] = x.left(0, n, i);
        }
        return row;
    }

    private static int[] cut(JetTrees x, int n) {
        int[] row = new int[Math.max(0, x.cut(0, n, -1))];
        for (int i = 0; i < row.length; i++) {
            row[i] = x.cut(0, n, i);
        }
        return row;
    }

    private static int[] cutBy(JetTrees x, int up, int down) {
        int[] row = new int[Math.max(0, x.cutBy(0, up, down, -1))];
        for (int i = 0; i < row.length; i++) {
            row[i] = x.cutBy(0, up, down, i);
        }
        return row;
    }

    private static void cuts() {
        JetTrees x = five();
        row(29, "left 0", left(x, 0), 0, 1, 2, 3, 4);
        row(29, "left 1", left(x, 1), 2, 3, 4, 5);
        row(29, "left 2", left(x, 2), 3, 4, 6);
        row(29, "left 3", left(x, 3), 6, 7);
        row(29, "left 4", left(x, 4), 7);
        row(29, "left 5", left(x, 5));
        Check.due(29, "left(0, 5, -1)", x.left(0, 5, -1), 0);
        Check.due(29, "left(0, 5, 0)", x.left(0, 5, 0), -1);
        Check.due(29, "left(0, 6, -1)", x.left(0, 6, -1), -1);
        Check.due(29, "left(0, -1, -1)", x.left(0, -1, -1), -1);
        Check.due(29, "left(0, 3, 2)", x.left(0, 3, 2), -1);
        Check.due(29, "left(0, 3, -2)", x.left(0, 3, -2), -1);
        Check.due(29, "left(1, 0, -1)", x.left(1, 0, -1), -1);
        row(30, "cut 40", cut(x, 40), 0, 1, 2, 3, 4);
        row(30, "cut 5", cut(x, 5), 0, 1, 2, 3, 4);
        row(30, "cut 4", cut(x, 4), 2, 3, 4, 5);
        row(30, "cut 3", cut(x, 3), 3, 4, 6);
        row(30, "cut 2", cut(x, 2), 6, 7);
        Check.due(30, "never so many", x.cut(0, 1, -1), -1);
        Check.due(30, "never so many", x.cut(0, 1, 0), -1);
        Check.due(30, "cut(0, 0, -1)", x.cut(0, 0, -1), -1);
        Check.due(30, "cut(0, 41, -1)", x.cut(0, 41, -1), -1);
        Check.due(30, "cut(0, 2, 2)", x.cut(0, 2, 2), -1);
        Check.due(30, "cut(0, 2, -2)", x.cut(0, 2, -2), -1);
        Check.due(30, "cut(1, 2, -1)", x.cut(1, 2, -1), -1);
        // A JET that goes ahead of the last two JOINED counts, and is one of those.
        x.move(3, 200, 100);
        x.move(4, 200, 108);
        x.set(0, 9);
        x.set(1, -1);
        x.weigh(0, 9999);
        x.weigh(3, 9);
        x.weigh(4, 10);
        x.gather(0);
        Check.due(30, "the heaviest goes to the beam", x.step(0, 2, 1), -1);
        Check.due(30, "ahead of two that are JOINED", x.step(0, 3, 2), 7);
        row(30, "cut 3", cut(x, 3), 3, 4, 6);
        row(29, "left 3 without it", left(x, 3), 3, 4);
        row(30, "cut 2 with it", cut(x, 2), 6, 7);
        row(29, "left 4 without it", left(x, 4), 7);
        Check.due(10, "KEPT with it", x.keep(2, 0, 2), 2);
        Check.due(39, "KEPT with it", x.kept(2, 0), 7);
        row(31, "cutBy 64 by 100 with it", cutBy(x, 64, 100), 6, 7);
    }

    private static void marks() {
        JetTrees x = five();
        row(31, "cutBy 8", cutBy(x, 8, 1), 0, 1, 2, 3, 4);
        row(31, "cutBy 9", cutBy(x, 9, 1), 2, 3, 4, 5);
        row(31, "cutBy 50/3", cutBy(x, 50, 3), 2, 3, 4, 5);
        row(31, "cutBy 51/3", cutBy(x, 51, 3), 3, 4, 6);
        row(31, "cutBy 24", cutBy(x, 24, 1), 3, 4, 6);
        row(31, "cutBy 25", cutBy(x, 25, 1), 6, 7);
        row(31, "cutBy 100: JETS that went", cutBy(x, 100, 1), 6, 7);
        row(31, "cutBy 0", cutBy(x, 0, Integer.MAX_VALUE), 0, 1, 2, 3, 4);
        row(31, "cutBy the greatest", cutBy(x, Integer.MAX_VALUE, 1), 6, 7);
        row(31, "cutBy nearly 1", cutBy(x, Integer.MAX_VALUE, Integer.MAX_VALUE - 1), 0, 1, 2, 3, 4);
        Check.due(31, "up below 0", x.cutBy(0, -1, 1, -1), -1);
        Check.due(31, "down 0", x.cutBy(0, 1, 0, -1), -1);
        Check.due(31, "down below 0", x.cutBy(0, 1, -1, -1), -1);
        Check.due(31, "cutBy(0, 25, 1, 2)", x.cutBy(0, 25, 1, 2), -1);
        Check.due(31, "cutBy(0, 25, 1, -2)", x.cutBy(0, 25, 1, -2), -1);
        Check.due(31, "cutBy(1, 25, 1, -1)", x.cutBy(1, 25, 1, -1), -1);
        // Fractions, exactly: 25 by 7777 times itself.
        JetTrees y = new JetTrees();
        y.track(0, 0, 7777);
        y.track(3, 4, 1);
        y.gather(0);
        Check.due(31, "up", y.up(0, 0), 25);
        Check.due(31, "down", y.down(0, 0), 7777L * 7777);
        row(31, "just so", cutBy(y, 25, 7777 * 7777), 2);
        row(31, "just so, not in lowest terms", cutBy(y, 50, 2 * 7777 * 7777), 2);
        row(31, "a little less", cutBy(y, 25, 7777 * 7777 + 1), 0, 1);
        row(31, "a little less", cutBy(y, 49, 2 * 7777 * 7777), 0, 1);
        row(31, "a little more", cutBy(y, 25, 7777 * 7777 - 1), 2);
        // Products across that no long holds.
        JetTrees z = new JetTrees();
        z.set(1, 1);
        z.set(0, 200);
        z.track(0, 0, 9999);
        z.gather(0);
        Check.due(31, "up", z.up(0, 0), 40000L * 9999 * 9999);
        row(31, "behind the JET", cutBy(z, Integer.MAX_VALUE, 1), 0);
        Check.due(31, "above any mark: as at first", z.cutBy(0, Integer.MAX_VALUE, Integer.MAX_VALUE, -1), 1);
        z.track(0, 100, 9999);
        z.gather(0);
        row(31, "10000 times 9999 times itself is above", cutBy(z, Integer.MAX_VALUE, 1), 0, 1);
    }

    private static void kept() {
        JetTrees x = five();
        Check.due(39, "nothing KEPT", x.kept(0, -1), -1);
        Check.due(39, "nothing KEPT", x.kept(0, 0), -1);
        Check.due(10, "keep(0, 0, 4)", x.keep(0, 0, 4), 4);
        Check.due(10, "keep(3, 0, 2)", x.keep(3, 0, 2), 2);
        long[] sets = {4, 8, 16, 3};
        Check.due(39, "kept(0, -1)", x.kept(0, -1), 4);
        for (int i = 0; i < 4; i++) {
            Check.due(39, "kept(0, " + i + ")", x.kept(0, i), sets[i]);
            Check.due(10, "kept(0, " + i + ")", x.kept(0, i), sets[i]);
        }
        Check.due(39, "kept(0, 4)", x.kept(0, 4), -1);
        Check.due(39, "kept(0, -2)", x.kept(0, -2), -1);
        Check.due(39, "kept(4, -1)", x.kept(4, -1), -1);
        Check.due(39, "kept(-1, -1)", x.kept(-1, -1), -1);
        Check.due(40, "within(0, 3)", x.within(0, 3), true);
        Check.due(40, "within(3, 0)", x.within(3, 0), false);
        Check.due(40, "within(3, 3)", x.within(3, 3), true);
        Check.due(40, "within(0, 1): nothing KEPT", x.within(0, 1), false);
        Check.due(40, "within(1, 0): nothing KEPT", x.within(1, 0), false);
        Check.due(40, "within(4, 0)", x.within(4, 0), false);
        Check.due(40, "within(0, -1)", x.within(0, -1), false);
        int steps = x.steps();
        Check.due(10, "no such CUT", x.keep(0, 0, 1), -1);
        Check.due(10, "n 0", x.keep(0, 0, 0), -1);
        Check.due(10, "n 41", x.keep(0, 0, 41), -1);
        Check.due(10, "no such TREE", x.keep(0, 1, 2), -1);
        Check.due(10, "tree 4", x.keep(0, 4, 2), -1);
        Check.due(10, "as 4", x.keep(4, 0, 2), -1);
        Check.due(10, "as -1", x.keep(-1, 0, 2), -1);
        Check.due(10, "steps()", x.steps(), steps);
        Check.due(10, "kept as it was", x.kept(0, -1), 4);
        Check.due(10, "in the place of what was KEPT so", x.keep(0, 0, 3), 3);
        Check.due(39, "kept(0, 2)", x.kept(0, 2), 7);
        x.free(0);
        Check.due(39, "it stays without its TREE", x.kept(3, 1), 24);
        x.drop(4);
        x.gather(0);
        Check.due(10, "keep(1, 0, 2)", x.keep(1, 0, 2), 2);
        Check.due(40, "a TRACK less: each set still in one", x.within(1, 3), true);
        Check.due(40, "a TRACK more: not each", x.within(3, 1), false);
    }

    private static int joined(JetTrees x, int sums, int what) {
        x.set(2, sums);
        x.set(1, 0);
        x.set(0, 200);
        x.gather(0);
        return x.knot(0, x.jet(0, 0), what);
    }

    private static JetTrees two(int a, int o, int w, int a2, int o2, int w2) {
        JetTrees x = new JetTrees();
        x.track(a, o, w);
        x.track(a2, o2, w2);
        return x;
    }

    private static void joinedPlaces() {
        Check.due(21, "ACROSS downward", joined(two(-1, 0, 1, 0, 0, 1), 0, 0), -1);
        Check.due(21, "ACROSS by WEIGHT", joined(two(10, 0, 3, 20, 0, 1), 0, 0), 12);
        Check.due(21, "ROUND downward, against the numbers", joined(two(0, 1, 50, 0, 359, 100), 0, 1), 359);
        Check.due(21, "ROUND from the first on", joined(two(1, 359, 100, 0, 1, 50), 0, 1), 359);
        Check.due(21, "ROUND from the first on", joined(two(1, 1, 50, 0, 359, 100), 0, 1), 359);
        Check.due(21, "of 180 positive", joined(two(0, 0, 1, 0, 180, 1), 0, 1), 90);
        Check.due(21, "of 180 positive, from 180", joined(two(1, 0, 1, 0, 180, 1), 0, 1), 270);
        Check.due(21, "of 179 against", joined(two(1, 0, 1, 0, 179, 1), 0, 1), 89);
        Check.due(21, "of 181 the lesser way", joined(two(0, 0, 1, 0, 181, 1), 0, 1), 270);
        Check.due(21, "SUMS 1: the heavier one", joined(two(0, 5, 1, 9, 6, 2), 1, 0), 9);
        Check.due(21, "SUMS 1: the heavier one", joined(two(0, 5, 1, 9, 6, 2), 1, 1), 6);
        Check.due(21, "SUMS 1: of like ones the first's", joined(two(9, 6, 2, 0, 5, 2), 1, 0), 0);
        Check.due(21, "SUMS 1: WEIGHT both together", joined(two(0, 5, 1, 9, 6, 2), 1, 2), 3);
        Check.due(20, "SUMS", joined(two(0, 0, 1, 0, 0, 1), 1, 7), 1);
    }

    private static JetTrees gathered(int power, int radius, int[]... tracks) {
        JetTrees x = new JetTrees();
        x.set(1, power);
        x.set(0, radius);
        for (int[] t : tracks) {
            x.track(t[0], t[1], t[2]);
        }
        x.gather(0);
        return x;
    }

    private static void ties() {
        JetTrees x = gathered(0, 5, new int[] {3, 4, 1}, new int[] {0, 0, 1});
        Check.due(23, "a one alone first", x.step(0, 0, 1), -1);
        Check.due(23, "the one that comes ahead", x.step(0, 0, 0), 1);
        x = gathered(0, 50, new int[] {10, 0, 1}, new int[] {8, 0, 1}, new int[] {-8, 0, 1}, new int[] {-10, 0, 1});
        Check.due(23, "the first ones: ACROSS", x.step(0, 0, 0), 3);
        Check.due(23, "the second", x.step(0, 0, 1), 2);
        x = gathered(0, 50, new int[] {2, 10, 1}, new int[] {0, 12, 1}, new int[] {0, 10, 1});
        Check.due(23, "then the second ones", x.step(0, 0, 1), 1);
        Check.due(23, "of the same first", x.step(0, 0, 0), 2);
        x = gathered(0, 50, new int[] {0, 7, 9}, new int[] {0, 7, 8}, new int[] {0, 7, 8});
        Check.due(23, "the lesser WEIGHT, then the lower number", x.step(0, 0, 0), 1);
        Check.due(23, "the second", x.step(0, 0, 1), 2);
        x = gathered(0, 1, new int[] {5, 0, 4}, new int[] {0, 0, 4}, new int[] {9, 0, 5});
        Check.due(27, "JETS: the greatest WEIGHT", x.jet(0, 0), 2);
        Check.due(27, "of like ones as they come ahead", x.jet(0, 1), 1);
        Check.due(27, "then the other", x.jet(0, 2), 0);
    }

    private static void powers() {
        int[][] tracks = {{0, 0, 10}, {10, 0, 40}, {30, 0, 1}, {33, 0, 1}};
        JetTrees x = gathered(0, 20, tracks);
        Check.due(24, "POWER 0: the nearest", x.up(0, 0), 9);
        Check.due(23, "2 and 3", x.step(0, 0, 0), 2);
        x = gathered(1, 20, tracks);
        Check.due(24, "POWER 1: times the lesser WEIGHT times itself", x.up(0, 0), 9);
        Check.due(24, "then 0 and 1: 100 times 10 times 10", x.up(0, 2), 100 * 100);
        Check.due(24, "but ahead of it the light one alone: 400 times 2 times 2", x.up(0, 1), 1600);
        Check.due(23, "it goes to the beam", x.step(0, 1, 1), -1);
        Check.due(25, "down", x.down(0, 1), 1);
        x = gathered(-1, 20, tracks);
        Check.due(24, "POWER -1: 100 by 40 times itself", x.up(0, 0), 1);
        Check.due(25, "in lowest terms", x.down(0, 0), 16);
        Check.due(23, "0 and 1", x.step(0, 0, 0), 0);
        Check.due(24, "400 by 50 times itself: 4 by 25", x.up(0, 1), 4);
        Check.due(25, "alone", x.down(0, 1), 25);
        Check.due(23, "to the beam", x.step(0, 1, 1), -1);
    }

    private static void fractions() {
        // 2 by 9 and 8 by 36 are like: the first ones decide, not which was told first.
        JetTrees x = gathered(-1, 200, new int[] {50, 0, 6}, new int[] {52, 2, 6}, new int[] {0, 0, 3}, new int[] {1, 1, 3});
        Check.due(23, "of like fractions the first ahead", x.step(0, 0, 0), 2);
        Check.due(24, "up", x.up(0, 0), 2);
        Check.due(25, "down", x.down(0, 0), 9);
        Check.due(24, "up", x.up(0, 1), 2);
        Check.due(25, "down", x.down(0, 1), 9);
        Check.due(24, "nothing apart: 0", gathered(1, 9, new int[] {1, 1, 5}, new int[] {1, 1, 5}).up(0, 0), 0);
        Check.due(25, "of 0: 1", gathered(-1, 9, new int[] {1, 1, 5}, new int[] {1, 1, 5}).down(0, 0), 1);
        JetTrees big = new JetTrees();
        big.set(1, 1);
        big.set(0, 200);
        for (int i = 0; i < 20; i++) {
            big.track(-200, 0, 9999);
            big.track(-180, 0, 9999);
        }
        Check.due(20, "all in one", big.gather(0), 1);
        Check.due(20, "KNOTS", big.tree(0, 0), 79);
        Check.due(21, "WEIGHT of all", big.knot(0, 78, 2), 399960);
        Check.due(26, "LEAVES of all", big.leaves(0, 78), (1L << 40) - 1);
        Check.due(24, "the beam", big.up(0, 39), 40000L * 399960 * 399960);
        Check.due(24, "20 by 20, half the WEIGHT", big.up(0, 38), 400L * 199980 * 199980);
    }
}
