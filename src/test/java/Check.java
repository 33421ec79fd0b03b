/** Counts answers that are as due, prints those that are not, and ends a test program. */
final class Check {
    private static int passed;
    private static int failed;

    private Check() {
    }

    static void due(String call, long got, long want) {
        if (got == want) {
            passed++;
        } else {
            failed++;
            System.out.println(call + " answered " + got + ", due is " + want);
        }
    }

    static void due(String call, String got, String want) {
        if (got.equals(want)) {
            passed++;
        } else {
            failed++;
            System.out.println(call + " answered '" + got + "', due is '" + want + "'");
        }
    }

    static boolean anyWrong() {
        return failed != 0;
    }

    static void end(String test) {
        System.out.println(test + ": " + passed + " passed, " + failed + " failed");
        System.exit(failed == 0 && passed > 0 ? 0 : 1);
    }
}
