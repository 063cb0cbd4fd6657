import java.lang.reflect.InvocationTargetException;
import java.lang.reflect.Method;
import java.lang.reflect.Modifier;
import java.util.Arrays;
import java.util.Comparator;
import java.util.function.Consumer;
import java.util.function.Supplier;

/**
 * What the tests of the edges have alike. Each test is a method of its own whose name begins with p and the number
 * of its promise; its first remark says the sentence. No test calls one object more than 512 times.
 */
final class Edge {
    private static String test = "";
    private static int asked = 0;
    private static int wrong = 0;

    /** Runs every method of these tests whose name says that it is one: none can be forgotten. */
    static void run(Class<?> tests) {
        Method[] methods = tests.getDeclaredMethods();
        Arrays.sort(methods, Comparator.comparing(Method::getName));
        int ran = 0;
        for (Method method : methods) {
            if (method.getName().matches("p\\d\\d_\\w+") && Modifier.isStatic(method.getModifiers())) {
                runOne(method);
                ran++;
            }
        }
        System.out.println(tests.getName() + ": " + ran + " tests, " + asked + " answers, " + wrong + " not as due");
        System.exit(wrong == 0 && ran > 0 ? 0 : 1);
    }

    private static void runOne(Method method) {
        test = method.getName();
        int before = asked;
        try {
            method.invoke(null);
        } catch (InvocationTargetException e) {
            say("threw " + e.getCause());
        } catch (IllegalAccessException e) {
            say("can't be run");
        }
        if (asked == before) {
            say("asks nothing");
        }
    }

    private static void say(String what) {
        wrong++;
        System.out.println(test + ": " + what);
    }

    static void due(String call, long got, long want) {
        asked++;
        if (got != want) {
            say(call + " answered " + got + ", due is " + want);
        }
    }

    static void due(String call, boolean got, boolean want) {
        asked++;
        if (got != want) {
            say(call + " answered " + got + ", due is " + want);
        }
    }

    static void bits(String call, long got, double want) {
        due(call, got, Double.doubleToLongBits(want));
    }

    /** That an object on which the call was made is as one on which it wasn't. */
    static void leavesAll(Supplier<JetTrees> maker, Consumer<JetTrees> call) {
        JetTrees called = maker.get();
        JetTrees twin = maker.get();
        call.accept(called);
        same("what was there", lookDeep(called), lookDeep(twin));
    }

    static void leavesAll(Consumer<JetTrees> call) {
        leavesAll(Edge::busy, call);
    }

    static void same(String what, String got, String want) {
        asked++;
        if (!got.equals(want)) {
            say(what + " is another now:\n  " + got + "\n  " + want);
        }
    }

    /** That a call is one STEP, changes something, and that all is as ahead of it when it is taken back. */
    static void takenBack(Consumer<JetTrees> call) {
        JetTrees called = busy();
        JetTrees left = busy();
        JetTrees twin = busy();
        call.accept(called);
        call.accept(left);
        due("steps() behind it", called.steps(), twin.steps() + 1);
        String after = look(left);
        due("undo()", called.undo(), twin.steps());
        due("it changed something", after.equals(look(busy())), false);
        same("all as ahead of it", lookDeep(called), lookDeep(twin));
    }

    /** Something of all: TRACKS of two EVENTS, TREES 0 and 1 (1 is APART), CUTS KEPT as 0 and 2, an IMAGE, 16 STEPS. */
    static JetTrees busy() {
        JetTrees x = five();
        x.hand(1);
        x.track(7, 7, 7);
        x.hand(0);
        x.apart(0, 6, 1, 3, 1);
        x.keep(0, 0, 3);
        x.keep(2, 0, 2);
        x.image();
        x.track(9, 9, 9);
        x.set(2, 1);
        x.tell(4711);
        return x;
    }

    /** TREE 0 by POWER 0, RADIUS 10: 0 and 1 are KNOT 5, 2 and 5 are KNOT 6 (a JET), 3 and 4 are KNOT 7 (a JET). */
    static JetTrees five() {
        return treeOf(0, 10, 0, t(0, 0, 100), t(3, 0, 50), t(0, 4, 50), t(100, 100, 30), t(105, 100, 40));
    }

    static int[] t(int across, int round, int weight) {
        return new int[] {across, round, weight};
    }

    static JetTrees of(int[]... tracks) {
        JetTrees x = new JetTrees();
        for (int[] track : tracks) {
            x.track(track[0], track[1], track[2]);
        }
        return x;
    }

    /** An object with n TRACKS, 9 apart in ROUND, so that no two are on one PLACE. */
    static JetTrees many(int n) {
        JetTrees x = new JetTrees();
        for (int i = 0; i < n; i++) {
            x.track(0, 9 * i, 1 + i);
        }
        return x;
    }

    /** TRACKS, GATHERED into TREE 0. */
    static JetTrees treeOf(int power, int radius, int sums, int[]... tracks) {
        JetTrees x = of(tracks);
        x.set(0, radius);
        x.set(1, power);
        x.set(2, sums);
        x.gather(0);
        return x;
    }

    /** What can be seen at once, in few calls. */
    static String look(JetTrees x) {
        StringBuilder seen = new StringBuilder();
        for (int what = 0; what < 8; what++) {
            seen.append(x.is(what)).append(' ');
        }
        int tracks = x.is(3);
        for (int t = 0; t < tracks; t++) {
            seen.append(x.of(t, 0)).append(',').append(x.of(t, 1)).append(',').append(x.of(t, 2)).append(' ');
        }
        for (int tree = 0; tree < 4; tree++) {
            lookAtTree(x, tree, seen);
        }
        for (int as = 0; as < 4; as++) {
            long sets = x.kept(as, -1);
            for (int i = 0; i < sets; i++) {
                seen.append(x.kept(as, i)).append(' ');
            }
            seen.append("; ");
        }
        return seen.append(x.steps()).append(" steps").toString();
    }

    private static void lookAtTree(JetTrees x, int tree, StringBuilder seen) {
        int knots = x.tree(tree, 0);
        seen.append("| ");
        for (int k = 0; k < knots; k++) {
            for (int what = 0; what < 3; what++) {
                seen.append(x.knot(tree, k, what)).append(',');
            }
            seen.append(x.leaves(tree, k)).append(' ');
        }
        int steps = x.tree(tree, 1);
        for (int s = 0; s < steps; s++) {
            seen.append(x.up(tree, s)).append('/').append(x.down(tree, s)).append(' ').append(x.origin(tree, s)).append(' ');
        }
        seen.append(x.tree(tree, 4)).append(' ').append(x.tree(tree, 5)).append(' ').append(x.tree(tree, 6)).append(' ');
    }

    /** And what comes to light as STEPS are taken back and the IMAGE is gone back to. The object is spent then. */
    static String lookDeep(JetTrees x) {
        StringBuilder seen = new StringBuilder(look(x));
        for (int i = 0; i < 21; i++) {
            seen.append("\n  undo ").append(x.undo()).append(':');
            for (int what = 0; what < 8; what++) {
                seen.append(' ').append(x.is(what));
            }
        }
        seen.append("\n  back ").append(x.back()).append(':');
        for (int what = 0; what < 8; what++) {
            seen.append(' ').append(x.is(what));
        }
        return seen.append(' ').append(x.kept(0, -1)).append(' ').append(x.steps()).toString();
    }
}
