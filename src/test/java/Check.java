/** What the tests have alike: answers that are due, by promise, and an exit code at the end. */
final class Check {
    private static int wrong = 0;
    private static int asked = 0;

    static void due(int promise, String call, long got, long want) {
        asked++;
        if (got != want) {
            wrong++;
            System.out.println("promise " + promise + ": " + call + " answered " + got + ", due is " + want);
        }
    }

    static void due(int promise, String call, boolean got, boolean want) {
        due(promise, call, got ? 1L : 0L, want ? 1L : 0L);
    }

    static void bits(int promise, String call, long got, double want) {
        due(promise, call, got, Double.doubleToLongBits(want));
    }

    /** All that can be asked of an object without arguments, to see that a refused call left it as it was. */
    static String look(JetTrees x) {
        StringBuilder seen = new StringBuilder();
        for (int i = 0; i < 8; i++) {
            seen.append(x.is(i)).append(' ');
        }
        for (int t = 0; t < 40; t++) {
            seen.append(x.of(t, 0)).append(',').append(x.of(t, 1)).append(',').append(x.of(t, 2)).append(' ');
        }
        for (int tree = 0; tree < 4; tree++) {
            for (int k = 0; k < 79; k++) {
                for (int what = 0; what < 8; what++) {
                    seen.append(x.knot(tree, k, what)).append(',');
                }
            }
            for (int s = 0; s < 40; s++) {
                seen.append(x.up(tree, s)).append('/').append(x.down(tree, s)).append(' ');
                seen.append(x.origin(tree, s)).append(' ');
            }
            for (int what = 4; what < 7; what++) {
                seen.append(x.tree(tree, what)).append(' ');
            }
        }
        for (int as = 0; as < 4; as++) {
            for (int i = -1; i < x.kept(as, -1); i++) {
                seen.append(x.kept(as, i)).append(' ');
            }
        }
        return seen.append(x.steps()).toString();
    }

    static void end(String name) {
        System.out.println(name + ": " + asked + " answers, " + wrong + " not as due");
        System.exit(wrong == 0 ? 0 : 1);
    }
}
