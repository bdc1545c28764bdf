/** Counts what is due and what came; every test ends with end(). */
final class Check {
    /** A call that may throw, with its answer as a number. */
    interface Call {
        long answer();
    }

    private static int asked = 0;
    private static int wrong = 0;

    private Check() {
    }

    static void due(String what, long want, long got) {
        asked++;
        if (got != want) {
            report(what + " answered " + got + ", due is " + want);
        }
    }

    static void throwsIndex(String what, Call call) {
        dueThrow(what, "IndexOutOfBoundsException", call);
    }

    static void throwsArgument(String what, Call call) {
        dueThrow(what, "IllegalArgumentException", call);
    }

    static void throwsState(String what, Call call) {
        dueThrow(what, "IllegalStateException", call);
    }

    /**
     * The answer, or the exact class of what was thrown: what the machine throws is of a class below the
     * document's. What the library throws may be of the very class, but never comes from the class's own lines.
     */
    static String outcome(Call call) {
        try {
            return Long.toString(call.answer());
        } catch (RuntimeException thrown) {
            StackTraceElement[] trace = thrown.getStackTrace();
            boolean own = trace.length > 0 && trace[0].getClassName().contains("Ledger");
            return thrown.getClass().getSimpleName() + (own ? "" : " of the library");
        }
    }

    static void dueOutcome(String what, String want, String got) {
        asked++;
        if (!got.equals(want)) {
            report(what + " came to " + got + ", due is " + want);
        }
    }

    private static void dueThrow(String what, String name, Call call) {
        dueOutcome(what, name, outcome(call));
    }

    private static void report(String line) {
        wrong++;
        // A broken promise can spoil thousands of answers; the first ones tell enough.
        if (wrong <= 40) {
            System.out.println(line);
        }
    }

    static void end() {
        System.out.println(asked + " answers asked for, " + wrong + " wrong");
        if (wrong != 0 || asked == 0) {
            System.exit(1);
        }
    }
}
