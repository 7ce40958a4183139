/** Counts the checks of one test class, prints those that fail, and tells the exit code. */
final class Checks {
    /** A call that may throw what the document names. */
    interface Call {
        Object make();
    }

    private static int passed = 0;
    private static int failed = 0;

    private Checks() {
    }

    static void same(String what, Object got, Object due) {
        if (got.equals(due)) {
            passed++;
        } else {
            failed++;
            System.out.println(what + ": answered " + got + ", due is " + due);
        }
    }

    static int made() {
        return passed + failed;
    }

    /** The call throws just this exception, and the object answers afterwards as it did before. */
    static void refused(String what, RecordReconciler x, Class<? extends Exception> due, Call call) {
        String before = Views.all(x);
        same(what, outcome(call), "throws " + due.getSimpleName());
        same(what + " leaves the object as it was", Views.all(x), before);
    }

    static String outcome(Call call) {
        try {
            return String.valueOf(call.make());
        } catch (RuntimeException e) {
            return "throws " + e.getClass().getSimpleName();
        }
    }

    static void finish(String name) {
        System.out.println(name + ": " + passed + " passed, " + failed + " failed");
        System.exit(failed == 0 && passed > 0 ? 0 : 1);
    }
}
