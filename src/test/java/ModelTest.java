import java.lang.reflect.Method;
import java.util.ArrayList;
import java.util.List;

/**
 * Runs of 512 calls, the same ones on the class and on the Model: every answer must be the same.
 * The numbers come from a row of their own, so each time the runs are the same ones.
 */
public final class ModelTest {
    /** For each call: its name, how often it comes, and what kind each argument is of. */
    private static final String[] CALLS = {
        "track 60 aow", "move 8 tao", "weigh 8 tw", "drop 5 t", "drawn 6 aodn", "tell 2 x", "set 12 sv",
        "gather 26 T", "keep 10 eTC", "apart 12 TkprT", "hand 5 h", "mix 4 ho", "free 2 T", "undo 6",
        "is 4 8", "of 4 t3", "square 4 tt", "nearest 6 t", "tree 5 T8", "knot 16 Tk8", "origin 5 Tt",
        "step 8 Ts3", "up 8 Ts", "down 8 Ts", "leaves 5 Tk", "jet 5 Ti", "jetOf 4 Tt", "left 6 Tsi",
        "cut 8 TCi", "cutBy 8 TUDi", "together 6 Ttt", "groom 12 Tkz2", "trim 8 Tkrz", "prune 10 Tkzr",
        "split 8 Tki4", "width 5 Tk", "closeness 5 Tk", "kept 5 ei", "within 6 ee", "tau 8 Tkc",
        "matched 8 TkT", "alike 5 TT", "unlike 5 TT", "backToBack 4 T", "fresh 5 T", "pair 6 Tii",
        "nearestPair 5 TM", "count 5 Twb", "common 5 TT", "span 8 i3", "gap 4 2", "tiles 4 l2", "cone 8 aor3",
        "still 8 ri", "patch 12 rzi", "pedestal 4 l", "clean 5 Tkl", "balance 4 o", "axis 1", "image 2", "back 1",
        "steps 3"
    };
    private static final int[] WILD = {
        -1, 0, 1, -2, 2, 3, 4, 39, 40, 41, 79, 80, 100, 101, 200, 201, -200, -201, 359, 360, 1000, 1001, 9999, 10000,
        30090, 30091, Integer.MAX_VALUE, Integer.MIN_VALUE, -1000
    };

    private static long seed;
    private static int style;
    private static Model model;

    public static void main(String[] args) throws Exception {
        int runs = args.length > 0 ? Integer.parseInt(args[0]) : 180;
        long start = args.length > 1 ? Long.parseLong(args[1]) : 0;
        List<String[]> bag = new ArrayList<>();
        for (String call : CALLS) {
            String[] parts = call.split(" ");
            for (int i = 0; i < Integer.parseInt(parts[1]); i++) {
                bag.add(parts);
            }
        }
        int wrong = 0;
        for (int run = 0; run < runs && wrong < 5; run++) {
            wrong += oneRun(start + run, bag) ? 0 : 1;
        }
        System.out.println(wrong == 0 ? runs + " runs are as the model's" : wrong + " runs went wrong");
        System.exit(wrong == 0 ? 0 : 1);
    }

    private static boolean oneRun(long number, List<String[]> bag) throws Exception {
        seed = number * 7919 + 17;
        style = (int) (number % 6);
        JetTrees trees = new JetTrees();
        model = new Model();
        StringBuilder told = new StringBuilder();
        for (int i = 0; i < 512; i++) {
            String[] call = i < 6 + next(30) ? bag.get(next(60)) : bag.get(next(bag.size()));
            String kinds = call.length > 2 ? call[2] : "";
            Object[] arguments = new Object[kinds.length()];
            Class<?>[] types = new Class<?>[kinds.length()];
            for (int k = 0; k < kinds.length(); k++) {
                boolean isLong = kinds.charAt(k) == 'M';
                types[k] = isLong ? long.class : int.class;
                if (isLong) {
                    arguments[k] = mark();
                } else {
                    arguments[k] = argument(kinds.charAt(k));
                }
            }
            Method asked = JetTrees.class.getMethod(call[0], types);
            Method due = Model.class.getMethod(call[0], types);
            told.append(call[0]).append(java.util.Arrays.toString(arguments)).append(' ');
            Object want = due.invoke(model, arguments);
            Object got;
            try {
                got = asked.invoke(trees, arguments);
            } catch (java.lang.reflect.InvocationTargetException e) {
                got = e.getCause();
            }
            if (!want.equals(got)) {
                System.out.println("run " + number + ", call " + i + ": " + call[0]
                    + java.util.Arrays.toString(arguments) + " answered " + got + ", due is " + want);
                System.out.println(told);
                return false;
            }
        }
        return true;
    }

    private static int next(int below) {
        seed = seed * 6364136223846793005L + 1442695040888963407L;
        return (int) Math.floorMod(seed >>> 33, (long) below);
    }

    private static int pick(int... values) {
        return values[next(values.length)];
    }

    private static long mark() {
        switch (next(5)) {
            case 0: return pick(-1, 0, 1, -1000);
            case 1: return next(2) == 0 ? Long.MAX_VALUE : Long.MIN_VALUE;
            case 2: return next(100000);
            case 3: return (long) next(1000000) * next(1000000);
            default: return (long) next(2000) * next(100);
        }
    }

    private static int argument(char kind) {
        if (next(40) == 0) {
            return pick(WILD);
        }
        int there = Math.max(1, model.here().size());
        switch (kind) {
            case 'a': return across();
            case 'o': return round();
            case 'w': return weight();
            case 't': return next(there);
            case 'd': return pick(0, 1, 3, 10, 60, next(61));
            case 'n': return 1 + next(next(3) == 0 ? 20 : 4);
            case 'x': return next(30091);
            case 's': return next(4) == 0 ? next(40) : next(4);
            case 'v': return pick(-1, 0, 1, 1, 0, -1, radius());
            case 'T': return next(4);
            case 'e': return next(4);
            case 'c': return next(2) == 0 ? 1 + next(9) : 1 + next(40);
            case 'C': return few();
            case 'k': return next(3) == 0 ? next(2 * there) : there - 1 + next(there);
            case 'p': return next(3) - 1;
            case 'r': return radius();
            case 'h': return next(3);
            case 'i': return next(4) == 0 ? next(40) : next(6) - 1;
            case 'U': return up();
            case 'D': return down();
            case 'z': return pick(0, 1000, 500, 333, next(1001), next(200), next(1001));
            case 'M': return 0;
            case 'b': return next(201);
            case 'l': return next(3) == 0 ? pick(1, 100, 99, 90, 67) : 1 + next(100);
            default: return next(kind - '0');
        }
    }

    private static int across() {
        switch (style) {
            case 0: return 3 * (next(5) - 2);
            case 1: return next(401) - 200;
            case 2: return pick(-200, 200, -199, 0, 199);
            case 3: return pick(0, 0, 1, -1, 2, 5);
            case 4: return next(61) - 30;
            default: return next(11) - 5;
        }
    }

    private static int round() {
        switch (style) {
            case 0: return (354 + 3 * next(5)) % 360;
            case 1: return next(360);
            case 2: return pick(0, 90, 179, 180, 181, 269, 270, 359);
            case 3: return pick(0, 359, 1, 358, 180);
            case 4: return (330 + next(61)) % 360;
            default: return (355 + next(11)) % 360;
        }
    }

    private static int weight() {
        switch (style) {
            case 0: return 1 + next(3);
            case 1: return 1 + next(9999);
            case 2: return pick(1, 9999, 9998, 5000);
            case 3: return pick(100, 100, 200);
            default: return 1 + next(300);
        }
    }

    private static int radius() {
        switch (style) {
            case 0: return pick(1, 3, 4, 6, 200);
            case 2: return pick(200, 199, 181, 180, 90);
            case 4: return 1 + next(60);
            case 5: return 1 + next(12);
            default: return next(3) == 0 ? pick(1, 200) : 1 + next(200);
        }
    }

    /** Marks that are just a STEP's, or near one, as well as any. */
    private static int up() {
        Model.MTree tree = model.treeAt(next(4));
        if (tree != null && next(3) != 0) {
            long up = tree.steps.get(next(tree.steps.size())).up.longValueExact();
            return (int) Math.min(Integer.MAX_VALUE, up + next(3) - 1);
        }
        return pick(0, 1, 2, Integer.MAX_VALUE, next(100000), next(200));
    }

    /** As many as a TREE can be cut to, or one too few. */
    private static int few() {
        Model.MTree tree = model.treeAt(next(4));
        return tree == null ? 1 + next(40) : tree.jets.size() - 1 + next(tree.tracks - tree.jets.size() + 2);
    }

    private static int down() {
        Model.MTree tree = model.treeAt(next(4));
        if (tree != null && next(3) != 0) {
            long down = tree.steps.get(next(tree.steps.size())).down.longValueExact();
            return (int) Math.min(Integer.MAX_VALUE, down);
        }
        return pick(1, 1, 2, 1000, Integer.MAX_VALUE, 1 + next(1000000));
    }
}
