/** Names tests and counts what is not as due; prints only the latter. */
final class Check {
    private static String test = "";
    private static int tests = 0;
    private static int wrong = 0;

    private Check() { }

    static void test(String name, Runnable body) {
        test = name;
        tests++;
        try {
            body.run();
        } catch (RuntimeException thrown) {
            // No call may throw; the tests behind this one are still to be run.
            wrong(String.valueOf(thrown));
        }
    }

    static void due(String call, int got, int want) {
        if (got != want) {
            wrong(call + " answered " + got + ", due is " + want);
        }
    }

    static void wrong(String what) {
        wrong++;
        if (wrong <= 100) {
            System.out.println(test + ": " + what);
        }
    }

    static void end() {
        System.out.println(tests + " tests, " + wrong + " wrong answers");
        if (wrong != 0) {
            System.exit(1);
        }
    }
}
