/**
 * Asks for refused calls: two ledgers are brought to one state, one of them is asked for the call, and
 * behind it both must look the same.
 */
final class Refusals {
    /** Brings a new ledger to the state in which a call is refused. */
    interface Maker {
        AllotmentLedger make();
    }

    interface Call {
        long on(AllotmentLedger ledger);
    }

    static final String INDEX = "IndexOutOfBoundsException";
    static final String ARGUMENT = "IllegalArgumentException";
    static final String STATE = "IllegalStateException";

    private Refusals() {
    }

    /** The answer of a call that the account at this place bars. */
    static String barredAt(int place) {
        return Integer.toString(-2 - place);
    }

    static void due(String what, String outcome, Maker maker, Call call) {
        AllotmentLedger asked = maker.make();
        Check.dueOutcome(what, outcome, Check.outcome(() -> call.on(asked)));
        dueSame(what, Picture.of(maker.make()), Picture.of(asked));
    }

    private static void dueSame(String what, String want, String got) {
        String[] wanted = want.split("\n");
        String[] seen = got.split("\n");
        Check.due(what + ", what can be seen behind it", wanted.length, seen.length);
        for (int i = 0; i < Math.min(wanted.length, seen.length); i++) {
            Check.dueOutcome(what + ", behind it", wanted[i], seen[i]);
        }
    }
}
