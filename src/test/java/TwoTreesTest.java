/** Promises 42 to 50 and 58: JETS of a TREE, pairs of them, and two TREES beside one another. */
public final class TwoTreesTest {
    public static void main(String[] args) {
        beside();
        matchedByWeight();
        matchedByLittle();
        fresh();
        pairs();
        counted();
        clean();
        Check.end("TwoTreesTest");
    }

    private static void beside() {
        JetTrees x = TreesTest.five();
        x.set(0, 4);
        Check.due(9, "gather(1): 5, 2, 3, 4", x.gather(1), 4);
        Check.due(42, "JET 6 of 0: the heaviest of 1", x.matched(0, 6, 1), 5);
        Check.due(42, "JET 7 of 0: TRACK 4 has more than 3", x.matched(0, 7, 1), 4);
        Check.due(42, "JET 2 of 1", x.matched(1, 2, 0), 6);
        Check.due(42, "JET 3 of 1", x.matched(1, 3, 0), 7);
        Check.due(42, "beside itself", x.matched(0, 7, 0), 7);
        Check.due(42, "5 is no JET of 0", x.matched(0, 5, 1), -1);
        Check.due(42, "no such KNOT", x.matched(0, 8, 1), -1);
        Check.due(42, "no such KNOT", x.matched(0, -1, 1), -1);
        Check.due(42, "no such TREE", x.matched(0, 6, 2), -1);
        Check.due(42, "no such TREE", x.matched(2, 6, 0), -1);
        Check.due(42, "no such TREE", x.matched(0, 6, 4), -1);
        Check.due(43, "alike(0, 1)", x.alike(0, 1), false);
        Check.due(43, "alike(0, 0)", x.alike(0, 0), true);
        Check.due(43, "alike(0, 2)", x.alike(0, 2), false);
        Check.due(43, "alike(2, 2)", x.alike(2, 2), false);
        Check.due(43, "alike(-1, 0)", x.alike(-1, 0), false);
        Check.due(44, "unlike(0, 1)", x.unlike(0, 1), 2);
        Check.due(44, "unlike(1, 0)", x.unlike(1, 0), 4);
        Check.due(44, "unlike(0, 0)", x.unlike(0, 0), 0);
        Check.due(44, "unlike(0, 2)", x.unlike(0, 2), -1);
        Check.due(44, "unlike(4, 0)", x.unlike(4, 0), -1);
        Check.due(50, "common(0, 1): KNOT 5", x.common(0, 1), 1);
        Check.due(50, "common(1, 0)", x.common(1, 0), 1);
        Check.due(50, "common(0, 0)", x.common(0, 0), 3);
        Check.due(50, "common(0, 2)", x.common(0, 2), -1);
        Check.due(50, "common(-1, 0)", x.common(-1, 0), -1);
        x.set(0, 5);
        x.gather(2);
        Check.due(44, "unlike(2, 0): 3 and 4 by themselves", x.unlike(2, 0), 2);
        Check.due(44, "unlike(0, 2)", x.unlike(0, 2), 1);
        Check.due(43, "one like JET is not enough", x.alike(0, 2), false);
        Check.due(50, "common(0, 2): 5 and 6", x.common(0, 2), 2);
        // A JOINED KNOT is never common with a TRACK, and other ways to like JETS are alike.
        x.set(0, 11);
        x.set(1, 1);
        x.weigh(0, 50);
        x.gather(3);
        Check.due(43, "other WEIGHTS, like JETS", x.alike(0, 3), true);
        x.drop(4);
        x.gather(3);
        Check.due(43, "a TRACK less", x.alike(0, 3), false);
        Check.due(43, "a TRACK less", x.alike(3, 0), false);
        Check.due(42, "one of the JETS has it not", x.matched(3, 3, 0), 7);
        x.drop(3);
        x.gather(3);
        Check.due(42, "no WEIGHT is shared: none", x.matched(0, 7, 3), -1);
        Check.due(44, "one like, one not", x.unlike(0, 3), 1);
    }

    private static void matchedByWeight() {
        JetTrees x = new JetTrees();
        x.set(1, 0);
        x.set(0, 1);
        x.track(50, 0, 5);
        x.track(0, 0, 7);
        x.gather(1);
        x.set(0, 200);
        x.gather(0);
        Check.due(42, "WEIGHTS as in the first TREE", x.matched(0, 2, 1), 1);
        x.weigh(0, 9);
        x.set(0, 1);
        x.gather(1);
        Check.due(42, "not as in the other one", x.matched(0, 2, 1), 1);
        x.weigh(0, 7);
        x.set(0, 200);
        x.gather(0);
        Check.due(42, "of like ones the first by WEIGHT", x.matched(0, 2, 1), 0);
        x.set(0, 1);
        x.gather(1);
        Check.due(42, "of like WEIGHT the one ahead", x.matched(0, 2, 1), 1);
    }

    private static void matchedByLittle() {
        JetTrees x = new JetTrees();
        x.track(0, 0, 1);
        x.gather(0);
        Check.due(42, "WEIGHT 1 is shared", x.matched(0, 0, 0), 0);
    }

    private static void fresh() {
        JetTrees x = TreesTest.five();
        Check.due(46, "fresh(0)", x.fresh(0), true);
        Check.due(46, "fresh(1)", x.fresh(1), false);
        Check.due(46, "fresh(4)", x.fresh(4), false);
        Check.due(46, "fresh(-1)", x.fresh(-1), false);
        x.weigh(3, 31);
        Check.due(46, "POWER 0: a WEIGHT that changes no MEASURE", x.fresh(0), true);
        x.set(0, 11);
        Check.due(46, "another RADIUS: other MEASURES of the beam", x.fresh(0), false);
        x.set(0, 10);
        Check.due(46, "as it was", x.fresh(0), true);
        x.set(1, 1);
        Check.due(46, "another POWER", x.fresh(0), false);
        x.set(1, 0);
        x.track(0, 200, 1);
        Check.due(46, "a TRACK more", x.fresh(0), false);
        x.drop(5);
        Check.due(46, "as it was", x.fresh(0), true);
        x.drop(4);
        Check.due(46, "a TRACK less", x.fresh(0), false);
        x.track(105, 101, 40);
        Check.due(46, "another PLACE", x.fresh(0), false);
        x.move(4, 105, 100);
        Check.due(46, "as it was", x.fresh(0), true);
        x.hand(1);
        Check.due(46, "without TRACKS", x.fresh(0), false);
        x.mix(0, 7);
        Check.due(46, "turned: the same STEPS", x.fresh(0), true);
    }

    private static void pairs() {
        // JETS: 2 (40, at 30), 0 (20, at 0), 1 (10, at 350).
        JetTrees x = new JetTrees();
        x.set(0, 1);
        x.track(0, 0, 20);
        Check.due(45, "no TREE", x.backToBack(0), -1);
        x.gather(1);
        x.track(0, 350, 10);
        x.track(5, 30, 40);
        x.gather(0);
        Check.due(45, "one JET", x.backToBack(1), -1);
        Check.due(45, "backToBack(0): 2 and 0", x.backToBack(0), 30);
        Check.due(45, "backToBack(4)", x.backToBack(4), -1);
        x.move(0, 0, 300);
        x.gather(2);
        Check.due(45, "the lesser way", x.backToBack(2), 90);
        Check.due(47, "pair(0, 0, 1)", x.pair(0, 0, 1), 800L * 925);
        Check.due(47, "pair(0, 0, 2)", x.pair(0, 0, 2), 400L * 1625);
        Check.due(47, "pair(0, 1, 2)", x.pair(0, 1, 2), 200L * 100);
        int[][] wrong = {{0, 1, 1}, {0, 1, 0}, {0, 0, 3}, {0, -1, 0}, {1, 0, 1}, {3, 0, 1}, {4, 0, 1}};
        for (int[] w : wrong) {
            Check.due(47, "a wrong pair", x.pair(w[0], w[1], w[2]), -1);
        }
        // 740000, 650000, 20000
        Check.due(48, "mark 0", x.nearestPair(0, 0), 42);
        Check.due(48, "mark 335000: of like ones the least", x.nearestPair(0, 335000), 2);
        Check.due(48, "mark 334999", x.nearestPair(0, 334999), 42);
        Check.due(48, "mark 695000: of like ones the least", x.nearestPair(0, 695000), 1);
        Check.due(48, "mark 694999", x.nearestPair(0, 694999), 2);
        Check.due(48, "the greatest mark", x.nearestPair(0, Long.MAX_VALUE), 1);
        Check.due(48, "mark -1", x.nearestPair(0, -1), -1);
        Check.due(48, "the least mark", x.nearestPair(0, Long.MIN_VALUE), -1);
        Check.due(48, "one JET", x.nearestPair(1, 5), -1);
        Check.due(48, "no such TREE", x.nearestPair(3, 5), -1);
        JetTrees far = new JetTrees();
        far.set(0, 1);
        far.track(-200, 0, 9999);
        far.track(200, 180, 9999);
        far.gather(0);
        Check.due(47, "the greatest of two TRACKS", far.pair(0, 0, 1), 9999L * 9999 * 192400);
    }

    private static void counted() {
        JetTrees x = new JetTrees();
        x.set(0, 1);
        x.track(-200, 0, 20);
        x.track(100, 90, 10);
        x.track(-100, 180, 40);
        x.gather(0);
        Check.due(49, "all", x.count(0, 0, 200), 3);
        Check.due(49, "within 199", x.count(0, 0, 199), 2);
        Check.due(49, "within 100", x.count(0, 0, 100), 2);
        Check.due(49, "within 99", x.count(0, 0, 99), 0);
        Check.due(49, "of 20", x.count(0, 20, 200), 2);
        Check.due(49, "of 21", x.count(0, 21, 200), 1);
        Check.due(49, "of more", x.count(0, Integer.MAX_VALUE, 200), 0);
        Check.due(49, "weight -1", x.count(0, -1, 200), -1);
        Check.due(49, "a -1", x.count(0, 0, -1), -1);
        Check.due(49, "a 201", x.count(0, 0, 201), -1);
        Check.due(49, "no such TREE", x.count(1, 0, 200), -1);
    }

    private static void clean() {
        // Of size 100 there are 20 TILES: with TRACKS in eleven, the tenth weighs least of these.
        JetTrees x = new JetTrees();
        x.set(0, 1);
        x.set(1, 0);
        x.track(200, 300, 50);
        x.track(200, 300, 30);
        x.gather(0);
        Check.due(58, "nothing lies under it", x.clean(0, 2, 100), 80);
        for (int i = 1; i < 11; i++) {
            x.track(-200 + 100 * (i / 4), 100 * (i % 4), 50 + i);
        }
        Check.due(57, "PEDESTAL", x.pedestal(100), 51);
        Check.due(58, "one TILE", x.clean(0, 2, 100), 29);
        x.move(1, 200, 0);
        Check.due(57, "another PEDESTAL", x.pedestal(100), 50);
        Check.due(58, "TRACKS as they are now, LEAVES as in the TREE", x.clean(0, 2, 100), 30);
        for (int t = 0; t < x.is(3); t++) {
            x.weigh(t, 80);
        }
        Check.due(58, "just 0", x.clean(0, 2, 100), 0);
        for (int t = 0; t < x.is(3); t++) {
            x.weigh(t, 90);
        }
        Check.due(58, "0 at least", x.clean(0, 2, 100), 0);
        Check.due(58, "no JET", x.clean(0, 0, 100), -1);
        Check.due(58, "no such KNOT", x.clean(0, 3, 100), -1);
        Check.due(58, "no such KNOT", x.clean(0, -1, 100), -1);
        Check.due(58, "no such TREE", x.clean(2, 0, 100), -1);
        Check.due(58, "size 0", x.clean(0, 2, 0), -1);
        Check.due(58, "size 101", x.clean(0, 2, 101), -1);
        JetTrees y = new JetTrees();
        y.set(0, 200);
        y.set(1, 0);
        y.track(0, 0, 500);
        y.track(0, 150, 400);
        y.track(0, 160, 100);
        Check.due(9, "one JET", y.gather(0), 1);
        for (int i = 0; i < 9; i++) {
            y.track(i < 5 ? -200 : 200, 80 * (i % 5), 40 + i);
        }
        int under = y.pedestal(100);
        Check.due(58, "two TILES", y.clean(0, 4, 100), 1000 - 2 * under);
        for (int i = 0; i < 4; i++) {
            y.track(-100, 100 * i, 30);
        }
        Check.due(57, "more TILES", y.pedestal(100) > 0, true);
        Check.due(58, "two TILES", y.clean(0, 4, 100), 1000 - 2 * y.pedestal(100));
    }
}
