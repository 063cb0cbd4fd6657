/** Promises 33 to 38 and 41: GROOMED, TRIMMED, PRUNED, SPLITS, WIDTH, CLOSENESS, TAU. */
public final class BranchesTest {
    public static void main(String[] args) {
        groomed();
        trimmed();
        pruned();
        splits();
        widths();
        tau();
        Check.end("BranchesTest");
    }

    private static void groomed() {
        JetTrees x = TreesTest.five();
        Check.due(33, "z 250: not less", x.groom(0, 6, 250, 0), 6);
        Check.due(33, "z 251: the heavier one", x.groom(0, 6, 251, 0), 5);
        Check.due(33, "z 333", x.groom(0, 6, 333, 0), 5);
        Check.due(33, "z 334", x.groom(0, 6, 334, 0), 0);
        Check.due(33, "z 1000", x.groom(0, 6, 1000, 0), 0);
        Check.due(33, "z 0", x.groom(0, 6, 0, 0), 6);
        Check.due(33, "of KNOT 7: 4 is the heavier one", x.groom(0, 7, 1000, 0), 4);
        Check.due(33, "a TRACK", x.groom(0, 2, 1000, 0), 2);
        Check.due(33, "SLOPE 1, a wide RADIUS", x.groom(0, 6, 1000, 1), 6);
        x.apart(0, 6, 0, 6, 1);
        Check.due(33, "SLOPE 1: 50 times 36 to 200 times 17", x.groom(1, 4, 529, 1), 4);
        Check.due(33, "SLOPE 1", x.groom(1, 4, 530, 1), 3);
        Check.due(33, "SLOPE 1: and no further", x.groom(1, 4, 1000, 1), 3);
        int[][] wrong = {{0, 6, -1, 0}, {0, 6, 1001, 0}, {0, 6, 0, 2}, {0, 6, 0, -1}, {0, 8, 0, 0}, {0, -1, 0, 0},
            {2, 0, 0, 0}, {4, 0, 0, 0}, {-1, 0, 0, 0}};
        for (int[] w : wrong) {
            Check.due(33, "wrongly groomed", x.groom(w[0], w[1], w[2], w[3]), -1);
        }
        JetTrees like = new JetTrees();
        like.track(7, 0, 100);
        like.track(0, 0, 100);
        like.set(1, 0);
        like.gather(0);
        Check.due(33, "of like ones the one behind is the lighter", like.groom(0, 2, 501, 0), 1);
        Check.due(33, "500: just not less", like.groom(0, 2, 500, 0), 2);
    }

    private static void trimmed() {
        JetTrees x = TreesTest.five();
        int[][] right = {{4, 250, 7}, {4, 251, 3}, {4, 750, 3}, {4, 751, 0}, {3, 250, 7}, {3, 251, 1}, {3, 500, 1},
            {3, 501, 0}, {200, 1000, 7}, {1, 0, 7}};
        for (int[] r : right) {
            Check.due(34, "trim(0, 6, " + r[0] + ", " + r[1] + ")", x.trim(0, 6, r[0], r[1]), r[2]);
        }
        Check.due(34, "numbers as in the TREE", x.trim(0, 7, 5, 500), 16);
        Check.due(34, "both", x.trim(0, 7, 6, 1000), 24);
        Check.due(34, "a TRACK", x.trim(0, 4, 1, 1000), 16);
        int[][] wrong = {{0, 6, 0, 5}, {0, 6, 201, 5}, {0, 6, 5, -1}, {0, 6, 5, 1001}, {0, 8, 5, 5}, {0, -1, 5, 5},
            {1, 0, 5, 5}, {4, 0, 5, 5}};
        for (int[] w : wrong) {
            Check.due(34, "wrongly trimmed", x.trim(w[0], w[1], w[2], w[3]), 0);
        }
        int steps = x.steps();
        x.trim(0, 6, 4, 250);
        Check.due(34, "it is no STEP", x.steps(), steps);
        Check.due(34, "and no TREE", x.is(5), 1);
    }

    private static void pruned() {
        JetTrees x = TreesTest.five();
        int[][] right = {{300, 4, 3}, {400, 4, 3}, {400, 3, 3}, {400, 2, 1}, {400, 5, 7}, {250, 1, 7}, {251, 1, 3},
            {1000, 1, 1}, {0, 1, 7}, {1000, 200, 7}};
        for (int[] r : right) {
            Check.due(35, "prune(0, 6, " + r[0] + ", " + r[1] + ")", x.prune(0, 6, r[0], r[1]), r[2]);
        }
        Check.due(35, "the heavier one stays", x.prune(0, 7, 1000, 4), 16);
        Check.due(35, "SQUARE just r times itself: not above", x.prune(0, 7, 1000, 5), 24);
        Check.due(35, "a TRACK", x.prune(0, 3, 1000, 1), 8);
        int[][] wrong = {{0, 6, -1, 5}, {0, 6, 1001, 5}, {0, 6, 5, 0}, {0, 6, 5, 201}, {0, 8, 5, 5}, {0, -1, 5, 5},
            {1, 0, 5, 5}, {4, 0, 5, 5}};
        for (int[] w : wrong) {
            Check.due(35, "wrongly pruned", x.prune(w[0], w[1], w[2], w[3]), 0);
        }
    }

    private static void splits() {
        JetTrees x = TreesTest.five();
        int[] whats = {0, 1, 2, 3, 4, -1, -2, 1000, Integer.MAX_VALUE, Integer.MIN_VALUE};
        for (int what : whats) {
            Check.due(36, "how many, what " + what, x.split(0, 6, -1, what), 2);
            Check.due(36, "how many of a TRACK, what " + what, x.split(0, 0, -1, what), 0);
            Check.due(36, "how many of no such KNOT, what " + what, x.split(0, 8, -1, what), -1);
            Check.due(36, "how many of no such TREE, what " + what, x.split(1, 0, -1, what), -1);
        }
        int[][] splits = {{6, 250, 17}, {5, 333, 9}};
        for (int i = 0; i < 2; i++) {
            for (int what = 0; what < 3; what++) {
                Check.due(36, "split(0, 6, " + i + ", " + what + ")", x.split(0, 6, i, what), splits[i][what]);
            }
        }
        Check.due(36, "there is none", x.split(0, 6, 2, 0), -1);
        Check.due(36, "i -2", x.split(0, 6, -2, 0), -1);
        Check.due(36, "what 3", x.split(0, 6, 0, 3), -1);
        Check.due(36, "what -1", x.split(0, 6, 0, -1), -1);
        Check.due(36, "what 3 of the last", x.split(0, 6, 1, 3), -1);
        Check.due(36, "a TRACK", x.split(0, 0, 0, 0), -1);
        Check.due(36, "no such KNOT", x.split(0, 8, 0, 0), -1);
        Check.due(36, "no such TREE", x.split(1, 0, 0, 0), -1);
        Check.due(36, "of 7: 30 of 70, downward", x.split(0, 7, 0, 1), 428);
    }

    private static void widths() {
        JetTrees x = TreesTest.five();
        Check.bits(37, "width(0, 6)", x.width(0, 6), 1050.0 / 200);
        Check.bits(37, "width(0, 5)", x.width(0, 5), 300.0 / 150);
        Check.bits(37, "width(0, 7)", x.width(0, 7), (30.0 * 4 + 40 * 9) / 70);
        Check.due(37, "a TRACK", x.width(0, 0), 0);
        Check.due(37, "width(0, 8)", x.width(0, 8), 0);
        Check.due(37, "width(0, -1)", x.width(0, -1), 0);
        Check.due(37, "width(1, 0)", x.width(1, 0), 0);
        Check.bits(38, "closeness(0, 6)", x.closeness(0, 6), 187500.0 / 40000);
        Check.bits(38, "closeness(0, 7)", x.closeness(0, 7), 30000.0 / 4900);
        Check.due(38, "a TRACK", x.closeness(0, 0), 0);
        Check.due(38, "closeness(0, 8)", x.closeness(0, 8), 0);
        Check.due(38, "closeness(1, 0)", x.closeness(1, 0), 0);
        // Far below 1, and a whole number of more than 53 bits.
        JetTrees small = new JetTrees();
        small.track(0, 0, 9999);
        small.track(1, 0, 1);
        small.set(1, 0);
        small.gather(0);
        Check.bits(37, "1 by 10000", small.width(0, 2), 1.0 / 10000);
        Check.bits(38, "9999 by 10000 times itself", small.closeness(0, 2), 9999.0 / 100000000.0);
        JetTrees big = new JetTrees();
        big.set(0, 200);
        big.set(1, 0);
        int[][] tracks = new int[40][];
        for (int i = 0; i < 40; i++) {
            tracks[i] = i % 2 == 0 ? new int[] {-200 + i % 3, 0, 9999 - i} : new int[] {-5, 180, 9999 - 2 * i};
            big.track(tracks[i][0], tracks[i][1], tracks[i][2]);
        }
        Check.due(38, "JETS", big.gather(0) >= 1, true);
        for (int k = 40; k < big.tree(0, 0); k++) {
            double due = closeness(tracks, big.leaves(0, k), big.knot(0, k, 2));
            Check.bits(38, "closeness(0, " + k + ")", big.closeness(0, k), due);
        }
    }

    private static double closeness(int[][] tracks, long leaves, long weight) {
        long sum = 0;
        for (int i = 0; i < tracks.length; i++) {
            for (int j = i + 1; j < tracks.length; j++) {
                if ((leaves >> i & 1) != 0 && (leaves >> j & 1) != 0) {
                    long across = tracks[i][0] - tracks[j][0];
                    long round = Math.abs(tracks[i][1] - tracks[j][1]);
                    sum += (long) tracks[i][2] * tracks[j][2] * (across * across + round * round);
                }
            }
        }
        return (double) sum / (double) (weight * weight);
    }

    private static void tau() {
        JetTrees x = TreesTest.five();
        Check.bits(41, "tau(0, 6, 1)", x.tau(0, 6, 1), 5.25);
        Check.bits(41, "tau(0, 6, 2)", x.tau(0, 6, 2), 1.5);
        Check.due(41, "tau(0, 6, 3)", x.tau(0, 6, 3), 0);
        Check.due(41, "tau(0, 6, 9)", x.tau(0, 6, 9), 0);
        Check.due(41, "n 10", x.tau(0, 6, 10), 0);
        Check.due(41, "n 0", x.tau(0, 6, 0), 0);
        Check.due(41, "n -1", x.tau(0, 6, -1), 0);
        Check.due(41, "no such KNOT", x.tau(0, 8, 1), 0);
        Check.due(41, "no such TREE", x.tau(1, 0, 1), 0);
        // The one JOINED latest gives way, not the heaviest and not the first.
        JetTrees y = new JetTrees();
        y.set(1, 0);
        y.set(0, 200);
        y.track(0, 0, 900);
        y.track(0, 2, 900);
        y.track(0, 20, 10);
        y.track(0, 26, 10);
        y.gather(0);
        Check.due(41, "0 and 1 first", y.together(0, 0, 1), 0);
        Check.due(41, "then 2 and 3", y.together(0, 2, 3), 1);
        Check.bits(41, "of 4 and 5: 1800 and 180 by 1820", y.tau(0, 6, 2), (900.0 + 900.0 + 90.0 + 90.0) / 1820);
        Check.bits(41, "5 gives way: 1800 by 1820", y.tau(0, 6, 3), 1800.0 / 1820);
        Check.due(41, "all by itself", y.tau(0, 6, 4), 0);
    }
}
