/** Promises 1 to 8 and 16 to 19: a new object, TRACKS, settings, and what TRACKS are. */
public final class TracksTest {
    public static void main(String[] args) {
        aNewObject();
        tracks();
        moved();
        weighed();
        dropped();
        drawn();
        told();
        settings();
        whatTracksAre();
        nearest();
        Check.end("TracksTest");
    }

    private static void aNewObject() {
        JetTrees x = new JetTrees();
        Check.due(1, "NONE", JetTrees.NONE, -1);
        int[] first = {40, -1, 0, 0, 701, 0, 0, 0};
        for (int what = 0; what < 8; what++) {
            Check.due(1, "is(" + what + ")", x.is(what), first[what]);
        }
        Check.due(1, "steps()", x.steps(), 0);
        x.track(1, 2, 3);
        x.set(0, 7);
        Check.due(1, "back() to the first image", x.back(), 0);
        Check.due(1, "is(0) after it", x.is(0), 40);
        Check.due(1, "steps() after it", x.steps(), 0);
        x.track(1, 2, 3);
        Check.due(1, "another object has no TRACKS", new JetTrees().is(3), 0);
    }

    private static void tracks() {
        JetTrees x = new JetTrees();
        Check.due(2, "track(-200, 0, 1)", x.track(-200, 0, 1), 0);
        Check.due(2, "track(200, 359, 9999)", x.track(200, 359, 9999), 1);
        int[][] wrong = {{-201, 0, 1}, {201, 0, 1}, {0, -1, 1}, {0, 360, 1}, {0, 0, 0}, {0, 0, 10000}, {0, 0, -1},
            {Integer.MIN_VALUE, 0, 1}, {0, Integer.MAX_VALUE, 1}, {0, 0, Integer.MAX_VALUE}};
        for (int[] w : wrong) {
            Check.due(2, "a wrong track", x.track(w[0], w[1], w[2]), -1);
        }
        Check.due(2, "steps()", x.steps(), 2);
        Check.due(2, "of(0, 0)", x.of(0, 0), -200);
        Check.due(2, "of(1, 1)", x.of(1, 1), 359);
        Check.due(2, "of(1, 2)", x.of(1, 2), 9999);
        for (int i = 2; i < 40; i++) {
            Check.due(2, "track " + i, x.track(0, i, i), i);
        }
        Check.due(2, "the 41st", x.track(0, 0, 1), -1);
        Check.due(2, "is(3)", x.is(3), 40);
        x.drop(0);
        Check.due(2, "room again", x.track(0, 0, 1), 39);
    }

    private static void moved() {
        JetTrees x = new JetTrees();
        x.track(1, 2, 3);
        x.track(4, 5, 6);
        Check.due(3, "move(1, -200, 359)", x.move(1, -200, 359), true);
        Check.due(3, "of(1, 0)", x.of(1, 0), -200);
        Check.due(3, "of(1, 1)", x.of(1, 1), 359);
        Check.due(3, "of(1, 2) stays", x.of(1, 2), 6);
        Check.due(3, "of(0, 0) stays", x.of(0, 0), 1);
        int[][] wrong = {{2, 0, 0}, {-1, 0, 0}, {0, 201, 0}, {0, -201, 0}, {0, 0, 360}, {0, 0, -1}};
        for (int[] w : wrong) {
            Check.due(3, "a wrong move", x.move(w[0], w[1], w[2]), false);
        }
        Check.due(3, "steps()", x.steps(), 3);
        Check.due(3, "to where it is: a STEP too", x.move(0, 1, 2), true);
        Check.due(3, "steps()", x.steps(), 4);
    }

    private static void weighed() {
        JetTrees x = new JetTrees();
        x.track(1, 2, 3);
        Check.due(4, "weigh(0, 9999)", x.weigh(0, 9999), true);
        Check.due(4, "of(0, 2)", x.of(0, 2), 9999);
        Check.due(4, "of(0, 0) stays", x.of(0, 0), 1);
        Check.due(4, "of(0, 1) stays", x.of(0, 1), 2);
        Check.due(4, "weigh(0, 1)", x.weigh(0, 1), true);
        Check.due(4, "weigh(0, 0)", x.weigh(0, 0), false);
        Check.due(4, "weigh(0, 10000)", x.weigh(0, 10000), false);
        Check.due(4, "weigh(1, 5)", x.weigh(1, 5), false);
        Check.due(4, "weigh(-1, 5)", x.weigh(-1, 5), false);
        Check.due(4, "of(0, 2)", x.of(0, 2), 1);
        Check.due(4, "steps()", x.steps(), 3);
    }

    private static void dropped() {
        JetTrees x = new JetTrees();
        Check.due(5, "drop(0) without TRACKS", x.drop(0), -1);
        x.track(10, 1, 1);
        x.track(20, 2, 2);
        x.track(30, 3, 3);
        Check.due(5, "drop(3)", x.drop(3), -1);
        Check.due(5, "drop(-1)", x.drop(-1), -1);
        Check.due(5, "drop(1)", x.drop(1), 2);
        Check.due(5, "of(0, 0)", x.of(0, 0), 10);
        Check.due(5, "those behind come up", x.of(1, 0), 30);
        Check.due(5, "of(2, 0)", x.of(2, 0), -1000);
        Check.due(5, "the number is another too", x.nearest(0), 1);
        Check.due(5, "drop(1)", x.drop(1), 1);
        Check.due(5, "drop(0)", x.drop(0), 0);
        Check.due(5, "steps()", x.steps(), 6);
    }

    private static void drawn() {
        // X from 701 on: 701 * 821 + 631 is 576152, mod 30091: 4423; mod 21: 13.
        JetTrees x = new JetTrees();
        Check.due(6, "drawn(195, 5, 10, 2)", x.drawn(195, 5, 10, 2), 2);
        Check.due(6, "of(0, 0): 195 and 13 less 10", x.of(0, 0), 198);
        int[] row = new int[9];
        int at = 701;
        for (int i = 0; i < 9; i++) {
            at = (at * 821 + 631) % 30091;
            row[i] = at;
        }
        for (int i = 0; i < 2; i++) {
            Check.due(6, "ACROSS", x.of(i, 0), Math.min(200, 195 + row[3 * i] % 21 - 10));
            Check.due(6, "ROUND", x.of(i, 1), (5 + row[3 * i + 1] % 21 - 10 + 360) % 360);
            Check.due(6, "WEIGHT", x.of(i, 2), row[3 * i + 2] % 500 + 1);
        }
        Check.due(6, "X goes on", x.is(4), row[5]);
        Check.due(6, "one STEP for all", x.steps(), 1);
        int[][] wrong = {{201, 0, 0, 1}, {-201, 0, 0, 1}, {0, 360, 0, 1}, {0, -1, 0, 1}, {0, 0, 61, 1}, {0, 0, -1, 1},
            {0, 0, 0, 0}, {0, 0, 0, 21}, {0, 0, 0, -1}, {0, 0, 0, Integer.MAX_VALUE}};
        for (int[] w : wrong) {
            Check.due(6, "wrongly drawn", x.drawn(w[0], w[1], w[2], w[3]), -1);
        }
        Check.due(6, "X stays", x.is(4), row[5]);
        Check.due(6, "steps()", x.steps(), 1);
        Check.due(6, "drawn(-200, 0, 60, 20)", x.drawn(-200, 0, 60, 20), 22);
        for (int i = 2; i < 22; i++) {
            Check.due(6, "held at -200", x.of(i, 0) >= -200 && x.of(i, 0) <= -140, true);
            Check.due(6, "ROUND within", x.of(i, 1) >= 300 || (x.of(i, 1) >= 0 && x.of(i, 1) <= 60), true);
        }
        Check.due(6, "more than 40", x.drawn(0, 0, 0, 19), -1);
        Check.due(6, "just 40", x.drawn(0, 0, 0, 18), 40);
        Check.due(6, "no room", x.drawn(0, 0, 0, 1), -1);
    }

    private static void told() {
        JetTrees x = new JetTrees();
        Check.due(7, "tell(30090)", x.tell(30090), true);
        Check.due(7, "is(4)", x.is(4), 30090);
        Check.due(7, "tell(30091)", x.tell(30091), false);
        Check.due(7, "tell(-1)", x.tell(-1), false);
        Check.due(7, "is(4)", x.is(4), 30090);
        Check.due(7, "tell(0)", x.tell(0), true);
        Check.due(7, "is(4)", x.is(4), 0);
        Check.due(7, "it is no STEP", x.steps(), 0);
        x.track(0, 0, 1);
        x.tell(5);
        Check.due(7, "undo() takes the TRACK back", x.undo(), 0);
        Check.due(7, "is(3)", x.is(3), 0);
        Check.due(7, "all is as ahead of the STEP", x.is(4), 0);
    }

    private static void settings() {
        JetTrees x = new JetTrees();
        int[][] right = {{0, 1}, {0, 200}, {1, 0}, {1, 1}, {1, -1}, {2, 1}, {2, 0}};
        for (int[] r : right) {
            Check.due(8, "set(" + r[0] + ", " + r[1] + ")", x.set(r[0], r[1]), true);
            Check.due(8, "is(" + r[0] + ")", x.is(r[0]), r[1]);
        }
        Check.due(8, "steps()", x.steps(), 7);
        int[][] wrong = {{0, 0}, {0, 201}, {0, -1}, {1, 2}, {1, -2}, {2, 2}, {2, -1}, {3, 1}, {-1, 1}, {4, 1}};
        for (int[] w : wrong) {
            Check.due(8, "set(" + w[0] + ", " + w[1] + ")", x.set(w[0], w[1]), false);
        }
        Check.due(8, "is(0)", x.is(0), 200);
        Check.due(8, "is(1)", x.is(1), -1);
        Check.due(8, "is(2)", x.is(2), 0);
        Check.due(8, "steps()", x.steps(), 7);
    }

    private static void whatTracksAre() {
        JetTrees x = new JetTrees();
        x.track(-5, 350, 7);
        x.track(5, 10, 8);
        x.track(0, 180, 9);
        x.set(0, 33);
        x.set(1, 1);
        x.set(2, 1);
        x.tell(99);
        x.gather(1);
        x.gather(3);
        int[] is = {33, 1, 1, 3, 99, 10, 24, 0};
        for (int what = 0; what < 8; what++) {
            Check.due(16, "is(" + what + ")", x.is(what), is[what]);
        }
        x.hand(2);
        Check.due(16, "is(7)", x.is(7), 2);
        Check.due(16, "is(3) of another EVENT", x.is(3), 0);
        Check.due(16, "is(6) of another EVENT", x.is(6), 0);
        x.hand(0);
        Check.due(16, "is(-1)", x.is(-1), -2);
        Check.due(16, "is(8)", x.is(8), -2);
        int[][] of = {{-5, 350, 7}, {5, 10, 8}, {0, 180, 9}};
        for (int t = 0; t < 3; t++) {
            for (int what = 0; what < 3; what++) {
                Check.due(17, "of(" + t + ", " + what + ")", x.of(t, what), of[t][what]);
            }
        }
        Check.due(17, "of(0, 3)", x.of(0, 3), -1000);
        Check.due(17, "of(0, -1)", x.of(0, -1), -1000);
        Check.due(17, "of(3, 0)", x.of(3, 0), -1000);
        Check.due(17, "of(-1, 0)", x.of(-1, 0), -1000);
        Check.due(18, "square(0, 1): 10 and 20", x.square(0, 1), 500);
        Check.due(18, "square(1, 0)", x.square(1, 0), 500);
        Check.due(18, "square(0, 2): 5 and 170", x.square(0, 2), 25 + 170 * 170);
        Check.due(18, "square(1, 1)", x.square(1, 1), 0);
        Check.due(18, "square(0, 3)", x.square(0, 3), -1);
        Check.due(18, "square(-1, 0)", x.square(-1, 0), -1);
        x.move(0, -200, 0);
        x.move(1, 200, 180);
        Check.due(18, "the greatest", x.square(0, 1), 192400);
    }

    private static void nearest() {
        JetTrees x = new JetTrees();
        x.track(0, 0, 5);
        Check.due(19, "there is no other one", x.nearest(0), -1);
        x.track(3, 4, 9);
        x.track(-3, 4, 9);
        x.track(5, 0, 1);
        Check.due(19, "three are like: the least ACROSS", x.nearest(0), 2);
        x.move(2, 3, 356);
        Check.due(19, "like ACROSS: the least ROUND", x.nearest(0), 1);
        x.move(2, 3, 4);
        Check.due(19, "like PLACE and WEIGHT: the lower number", x.nearest(0), 1);
        x.weigh(2, 8);
        Check.due(19, "like PLACE: the least WEIGHT", x.nearest(0), 2);
        Check.due(19, "on the same PLACE", x.nearest(1), 2);
        x.move(3, 0, 359);
        Check.due(19, "across ROUND 0", x.nearest(0), 3);
        Check.due(19, "nearest(4)", x.nearest(4), -1);
        Check.due(19, "nearest(-1)", x.nearest(-1), -1);
    }
}
