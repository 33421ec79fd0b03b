/** Counts answers that are as due, prints those that are not, and ends a test program. */
final class Check {
    private static int passed;
    private static int failed;
    private static String heading = "";

    private Check() {
    }

    /** What is printed ahead of each wrong answer from here on. */
    static void under(String words) {
        heading = words;
    }

    static void due(String call, long got, long want) {
        judge(got == want, call, String.valueOf(got), String.valueOf(want));
    }

    static void due(String call, String got, String want) {
        judge(got.equals(want), call, "'" + got + "'", "'" + want + "'");
    }

    private static void judge(boolean asDue, String call, String got, String want) {
        if (asDue) {
            passed++;
        } else {
            failed++;
            System.out.println(heading + call + " answered " + got + ", due is " + want);
        }
    }

    static int made() {
        return passed + failed;
    }

    static boolean anyWrong() {
        return failed != 0;
    }

    static void end(String test) {
        System.out.println(test + ": " + passed + " passed, " + failed + " failed");
        System.exit(failed == 0 && passed > 0 ? 0 : 1);
    }
}
