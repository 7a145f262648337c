/** Counts the answers that are as due, and prints the line of each that is not. */
final class Check {
    private static int passed = 0;
    private static int failed = 0;
    private static int promise = 0;

    private Check() {
    }

    /** The promise that the answers from here on are due by; 0 for a rule of LANGUAGE.md. */
    static void promise(int number) {
        promise = number;
    }

    static void due(long got, long want) {
        if (got == want) {
            passed++;
        } else {
            fail("answered " + got + ", due is " + want);
        }
    }

    /** With the call that was answered, where many are made by one line of a test. */
    static void due(long got, long want, String call) {
        if (got == want) {
            passed++;
        } else {
            fail(call + " answered " + got + ", due is " + want);
        }
    }

    static void dueEach(long[] got, long... want) {
        due(got.length, want.length);
        for (int i = 0; i < Math.min(got.length, want.length); i++) {
            due(got[i], want[i]);
        }
    }

    static void dueTrue(boolean stands, String what) {
        if (stands) {
            passed++;
        } else {
            fail("it does not hold that " + what);
        }
    }

    private static void fail(String how) {
        failed++;
        System.out.println("promise " + promise + ", " + testLine() + ": " + how);
    }

    private static String testLine() {
        for (StackTraceElement frame : new Throwable().getStackTrace()) {
            if (frame.getClassName().endsWith("Test")) {
                return frame.getFileName() + ":" + frame.getLineNumber();
            }
        }
        return "?";
    }

    /** Prints the sums; true if nothing failed. */
    static boolean close() {
        System.out.println(passed + " passed, " + failed + " failed");
        return failed == 0;
    }
}
