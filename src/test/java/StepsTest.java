/** Promises 9 to 15 and 61 to 63: what makes TREES, EVENTS, STEPS taken back and the IMAGE. */
public final class StepsTest {
    public static void main(String[] args) {
        gathered();
        apart();
        hands();
        mixed();
        freed();
        undone();
        eachStepUndone();
        latestTwenty();
        image();
        Check.end("StepsTest");
    }

    private static void gathered() {
        JetTrees x = new JetTrees();
        Check.due(9, "without TRACKS", x.gather(0), -1);
        Check.due(9, "steps()", x.steps(), 0);
        x.track(0, 0, 10);
        x.track(0, 100, 10);
        x.track(0, 110, 10);
        Check.due(9, "gather(4)", x.gather(4), -1);
        Check.due(9, "gather(-1)", x.gather(-1), -1);
        Check.due(9, "gather(3)", x.gather(3), 2);
        Check.due(9, "is(5)", x.is(5), 8);
        x.set(0, 9);
        Check.due(9, "by another RADIUS", x.gather(3), 3);
        x.set(0, 10);
        Check.due(9, "the RADIUS just there: alone first", x.gather(0), 3);
        x.set(0, 11);
        Check.due(9, "a greater one", x.gather(0), 2);
        x.set(0, 200);
        Check.due(9, "all in one", x.gather(0), 1);
        x.drop(0);
        x.drop(0);
        Check.due(9, "a TREE stays as it was", x.tree(0, 3), 3);
        x.drop(0);
        Check.due(9, "without TRACKS again", x.gather(0), -1);
        Check.due(9, "and the TREE stays", x.tree(0, 3), 3);
    }

    private static JetTrees five() {
        JetTrees x = new JetTrees();
        x.set(1, 0);
        x.set(0, 10);
        x.track(0, 0, 100);
        x.track(100, 100, 30);
        x.track(3, 0, 50);
        x.track(105, 100, 40);
        x.track(0, 4, 50);
        x.gather(0);
        return x;
    }

    private static void apart() {
        JetTrees x = five();
        int jet = x.jet(0, 0);
        Check.due(11, "the JET has TRACKS 0, 2, 4", x.leaves(0, jet), 21);
        x.set(0, 77);
        Check.due(11, "apart(0, jet, 0, 3, 1)", x.apart(0, jet, 0, 3, 1), 3);
        Check.due(11, "apart(0, jet, 1, 4, 1)", x.apart(0, jet, 0, 4, 1), 2);
        Check.due(11, "TRACKS", x.tree(1, 3), 3);
        Check.due(11, "RADIUS", x.tree(1, 4), 4);
        Check.due(11, "POWER", x.tree(1, 5), 0);
        int[] origins = {0, 2, 4};
        for (int i = 0; i < 3; i++) {
            Check.due(11, "origin", x.origin(1, i), origins[i]);
            Check.due(22, "origin(1, " + i + ")", x.origin(1, i), origins[i]);
            Check.due(11, "WEIGHT", x.knot(1, i, 2), x.knot(0, origins[i], 2));
            Check.due(11, "ACROSS", x.knot(1, i, 0), x.knot(0, origins[i], 0));
        }
        Check.due(11, "of a TREE apart, POWER 1", x.apart(1, 3, 1, 200, 2), 1);
        Check.due(11, "POWER", x.tree(2, 5), 1);
        Check.due(22, "the number it had there", x.origin(2, 1), 1);
        Check.due(11, "SUMS of the TREE it is from", x.tree(2, 6), 0);
        x.set(2, 1);
        x.gather(3);
        Check.due(11, "into itself", x.apart(3, x.jet(3, 0), -1, 200, 3), 1);
        Check.due(11, "SUMS of the TREE it is from", x.tree(3, 6), 1);
        Check.due(11, "a TRACK alone", x.apart(0, 3, 0, 1, 2), 1);
        Check.due(22, "its ORIGIN", x.origin(2, 0), 3);
        int steps = x.steps();
        int[][] wrong = {{0, jet, 2, 5, 1}, {0, jet, -2, 5, 1}, {0, jet, 0, 0, 1}, {0, jet, 0, 201, 1},
            {0, jet, 0, 5, 4}, {0, jet, 0, 5, -1}, {0, 8, 0, 5, 1}, {0, -1, 0, 5, 1}, {4, 0, 0, 5, 1}, {-1, 0, 0, 5, 1}};
        for (int[] w : wrong) {
            Check.due(11, "wrongly apart", x.apart(w[0], w[1], w[2], w[3], w[4]), -1);
        }
        x.free(1);
        Check.due(11, "no such TREE", x.apart(1, 0, 0, 5, 2), -1);
        Check.due(11, "steps()", x.steps(), Math.min(20, steps + 1));
        Check.due(22, "not GATHERED APART", x.origin(0, 0), -1);
        Check.due(22, "origin(2, 1)", x.origin(2, 1), -1);
        Check.due(22, "origin(2, -1)", x.origin(2, -1), -1);
        Check.due(22, "origin(1, 0)", x.origin(1, 0), -1);
        Check.due(22, "origin(4, 0)", x.origin(4, 0), -1);
        Check.due(22, "origin(-1, 0)", x.origin(-1, 0), -1);
    }

    private static void hands() {
        JetTrees x = five();
        x.keep(0, 0, 3);
        Check.due(12, "IN HAND already", x.hand(0), -1);
        Check.due(12, "hand(3)", x.hand(3), -1);
        Check.due(12, "hand(-1)", x.hand(-1), -1);
        Check.due(12, "hand(2)", x.hand(2), 0);
        Check.due(12, "TREES stay", x.is(5), 1);
        Check.due(12, "what is KEPT stays", x.kept(0, -1), 3);
        Check.due(12, "RADIUS stays", x.is(0), 10);
        Check.due(12, "its own TRACKS", x.track(1, 1, 1), 0);
        Check.due(12, "hand(0)", x.hand(0), 5);
        Check.due(12, "hand(2) again", x.hand(2), 1);
        Check.due(12, "of(0, 0)", x.of(0, 0), 1);
    }

    private static void mixed() {
        JetTrees x = new JetTrees();
        x.track(1, 350, 7);
        x.track(2, 20, 8);
        x.hand(1);
        x.track(9, 9, 9);
        Check.due(13, "itself", x.mix(1, 0), -1);
        Check.due(13, "mix(3, 0)", x.mix(3, 0), -1);
        Check.due(13, "mix(-1, 0)", x.mix(-1, 0), -1);
        Check.due(13, "mix(0, 360)", x.mix(0, 360), -1);
        Check.due(13, "mix(0, -1)", x.mix(0, -1), -1);
        Check.due(13, "mix(0, 20)", x.mix(0, 20), 3);
        int[][] of = {{9, 9, 9}, {1, 10, 7}, {2, 40, 8}};
        for (int t = 0; t < 3; t++) {
            for (int what = 0; what < 3; what++) {
                Check.due(13, "of(" + t + ", " + what + ")", x.of(t, what), of[t][what]);
            }
        }
        Check.due(13, "numbers of their own", x.nearest(2), 1);
        Check.due(13, "mix(0, 359)", x.mix(0, 359), 5);
        Check.due(13, "of(3, 1)", x.of(3, 1), 349);
        Check.due(13, "of(4, 1)", x.of(4, 1), 19);
        x.hand(0);
        Check.due(13, "the other EVENT stays", x.is(3), 2);
        x.drawn(0, 0, 5, 20);
        x.drawn(0, 0, 5, 14);
        x.hand(1);
        int steps = x.steps();
        Check.due(13, "41 in all: nothing is done", x.mix(0, 0), -1);
        Check.due(13, "is(3)", x.is(3), 5);
        Check.due(13, "steps()", x.steps(), steps);
        x.drop(0);
        Check.due(13, "40 in all", x.mix(0, 0), 40);
        Check.due(13, "an EVENT without TRACKS: a STEP too", x.mix(2, 5), 40);
        Check.due(13, "undo()", x.undo() >= 0 && x.is(3) == 40, true);
        Check.due(13, "undo()", x.undo() >= 0 && x.is(3) == 4, true);
    }

    private static void freed() {
        JetTrees x = five();
        Check.due(14, "free(1)", x.free(1), false);
        Check.due(14, "free(4)", x.free(4), false);
        Check.due(14, "free(-1)", x.free(-1), false);
        int steps = x.steps();
        Check.due(14, "free(0)", x.free(0), true);
        Check.due(14, "steps()", x.steps(), steps + 1);
        Check.due(14, "is(5)", x.is(5), 0);
        Check.due(14, "tree(0, 0)", x.tree(0, 0), -2);
        Check.due(14, "free(0) again", x.free(0), false);
        x.undo();
        Check.due(14, "is(5)", x.is(5), 1);
    }

    private static void undone() {
        JetTrees x = new JetTrees();
        Check.due(15, "there is none", x.undo(), -1);
        x.track(1, 1, 1);
        x.track(2, 2, 2);
        Check.due(15, "undo()", x.undo(), 1);
        Check.due(15, "is(3)", x.is(3), 1);
        Check.due(15, "a new one then", x.track(3, 3, 3), 1);
        Check.due(15, "undo()", x.undo(), 1);
        Check.due(15, "undo()", x.undo(), 0);
        Check.due(15, "undo()", x.undo(), -1);
        Check.due(63, "steps()", x.steps(), 0);
        x.track(201, 0, 0);
        x.undo();
        x.gather(0);
        Check.due(63, "what is refused is no STEP", x.steps(), 0);
    }

    /** Each kind of STEP by itself: all is as ahead of it. */
    private static void eachStepUndone() {
        for (int kind = 0; kind < 13; kind++) {
            JetTrees x = five();
            x.hand(1);
            x.track(7, 7, 7);
            x.hand(0);
            x.keep(1, 0, 2);
            x.tell(4711);
            String before = Edge.look(x);
            int steps = x.steps();
            take(x, kind);
            Check.due(15, "a STEP of kind " + kind, x.steps(), steps + 1);
            Check.due(15, "it changed something, kind " + kind, Edge.look(x).equals(before), false);
            Check.due(15, "undo() of kind " + kind, x.undo(), steps);
            Check.due(15, "all is as ahead of it, kind " + kind, Edge.look(x).equals(before), true);
        }
    }

    private static void take(JetTrees x, int kind) {
        switch (kind) {
            case 0: x.keep(1, 0, 4); break;
            case 1: x.track(8, 8, 8); break;
            case 2: x.move(2, 8, 8); break;
            case 3: x.weigh(2, 8); break;
            case 4: x.drop(1); break;
            case 5: x.drawn(0, 0, 9, 3); break;
            case 6: x.set(0, 99); break;
            case 7: x.set(1, 1); break;
            case 8: x.set(2, 1); break;
            case 9: x.move(0, 50, 50); x.undo(); x.apart(0, 7, -1, 3, 0); break;
            case 10: x.free(0); break;
            case 11: x.hand(1); break;
            default: x.mix(1, 3); break;
        }
    }

    private static void latestTwenty() {
        JetTrees x = new JetTrees();
        for (int i = 0; i < 25; i++) {
            Check.due(63, "steps()", x.steps(), Math.min(i, 20));
            x.track(i, i, 1);
        }
        Check.due(63, "the latest 20", x.steps(), 20);
        for (int i = 19; i >= 0; i--) {
            Check.due(15, "undo()", x.undo(), i);
        }
        Check.due(15, "no more", x.undo(), -1);
        Check.due(15, "five stay", x.is(3), 5);
    }

    private static void image() {
        JetTrees x = five();
        x.keep(2, 0, 3);
        x.tell(5);
        Check.due(61, "image()", x.image(), 5);
        String before = Edge.look(x);
        int steps = x.steps();
        Check.due(61, "it is no STEP", steps, 9);
        for (int round = 0; round < 2; round++) {
            for (int kind = 0; kind < 11; kind++) {
                take(x, kind);
            }
            x.tell(77);
            x.hand(2);
            Check.due(62, "back()", x.back(), 5);
            Check.due(62, "all is so again", Edge.look(x).equals(before), true);
            Check.due(62, "so are the STEPS", x.steps(), steps);
        }
        x.undo();
        Check.due(62, "undo() as it was there: nothing KEPT", x.kept(2, -1), -1);
        x.undo();
        Check.due(62, "undo() as it was there: no TREE", x.is(5), 0);
        Check.due(62, "back() again", x.back(), 5);
        Check.due(62, "it stays", Edge.look(x).equals(before), true);
        x.drop(0);
        Check.due(61, "another IMAGE", x.image(), 4);
        x.drop(0);
        Check.due(62, "back() to it", x.back(), 4);
        x.hand(1);
        Check.due(61, "of the EVENT IN HAND", x.image(), 0);
    }
}
