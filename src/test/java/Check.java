/** What the tests share: it counts the answers that are not due, and says which. */
final class Check {
    interface Call {
        void run();
    }

    private static int faults = 0;

    private Check() {
    }

    static int faults() {
        return faults;
    }

    static void fault(String what) {
        faults++;
        System.out.println("  " + what);
    }

    static void due(String what, long got, long want) {
        if (got != want) {
            fault(what + " answered " + got + ", due is " + want);
        }
    }

    static void due(String what, boolean got, boolean want) {
        if (got != want) {
            fault(what + " answered " + got + ", due is " + want);
        }
    }

    static void dueText(String what, String got, String want) {
        if (!got.equals(want)) {
            fault(what + " answered " + got + ", due is " + want);
        }
    }

    static void noPlace(String what, Call call) {
        dueThrow(what, IndexOutOfBoundsException.class, call);
    }

    static void badArgument(String what, Call call) {
        dueThrow(what, IllegalArgumentException.class, call);
    }

    static void notNow(String what, Call call) {
        dueThrow(what, IllegalStateException.class, call);
    }

    private static void dueThrow(String what, Class<? extends RuntimeException> want, Call call) {
        try {
            call.run();
        } catch (RuntimeException thrown) {
            if (thrown.getClass() != want || !isOwnThrow(thrown)) {
                fault(what + " threw " + thrown + ", due is " + want.getName());
            }
            return;
        }
        fault(what + " threw nothing, due is " + want.getName());
    }

    /** True if WellRights itself threw it; the machine's and the library's own throws are not allowed. */
    static boolean isOwnThrow(RuntimeException thrown) {
        StackTraceElement[] trace = thrown.getStackTrace();
        return trace.length > 0 && trace[0].getClassName().startsWith("WellRights");
    }
}
