/** What the tests have alike: answers that are due, by promise, and an exit code at the end. */
final class Check {
    private static int wrong = 0;
    private static int asked = 0;

    static void due(int promise, String call, long got, long want) {
        asked++;
        if (got != want) {
            wrong++;
            System.out.println("promise " + promise + ": " + call + " answered " + got + ", due is " + want);
        }
    }

    static void due(int promise, String call, boolean got, boolean want) {
        due(promise, call, got ? 1L : 0L, want ? 1L : 0L);
    }

    static void bits(int promise, String call, long got, double want) {
        due(promise, call, got, Double.doubleToLongBits(want));
    }

    static void end(String name) {
        System.out.println(name + ": " + asked + " answers, " + wrong + " not as due");
        System.exit(wrong == 0 ? 0 : 1);
    }
}
