/** Counts what is as due and what is not, and tells each that is not. */
final class Check {
    private static int passed = 0;
    private static int failed = 0;

    private Check() {
    }

    static void due(String what, long got, long want) {
        if (got == want) {
            passed++;
        } else {
            failed++;
            System.out.println(what + " answered " + got + ", due is " + want);
        }
    }

    static void holds(String what, boolean so) {
        due(what, so ? 1 : 0, 1);
    }

    static boolean anyFailed() {
        return failed > 0;
    }

    static String sum() {
        return passed + " passed, " + failed + " failed";
    }
}
