/** Counts what is as due and prints what is not. */
final class Check {
    private static int passed = 0;
    private static int failed = 0;

    private Check() {
    }

    static void same(String what, Object due, Object got) {
        if (due.equals(got)) {
            passed++;
        } else {
            failed++;
            System.out.println(what + ": answered " + got + ", due is " + due);
        }
    }

    static void refusesArgument(String what, Runnable call) {
        same(what, "IllegalArgumentException", outcome(call));
    }

    static void refusesState(String what, Runnable call) {
        same(what, "IllegalStateException", outcome(call));
    }

    /** The simple name of the exception that the call throws, or "nothing". */
    static String outcome(Runnable call) {
        try {
            call.run();
            return "nothing";
        } catch (RuntimeException e) {
            return e.getClass().getSimpleName();
        }
    }

    /** Prints the closing line; answers whether all was as due. */
    static boolean close() {
        System.out.println(passed + " passed, " + failed + " failed");
        return failed == 0;
    }
}
