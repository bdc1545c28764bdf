import java.util.HashSet;
import java.util.Random;
import java.util.Set;

/** Long runs of mixed calls: AllotmentLedger and PlainLedger must come to the same, call by call. */
public final class ModelTest {
    private static final int RUNS = 1500;
    private static final int CALLS = 512;
    private static final int CALLS_AHEAD_OF_SWEEP = 290;
    private static final String[] NAMES = {"type", "back", "clearPath", "makeProject", "findProject", "moveProject",
        "letterAt", "projects", "makeFile", "write", "delete", "moveFile", "reserve", "settle", "setLimits", "pass",
        "used", "filesOf", "usedByFiles", "grace", "room", "beginRecount", "recount", "counted"};
    private static final int TYPE = 0;
    private static final int CLEAR_PATH = 2;
    private static final int MAKE_PROJECT = 3;
    private static final int MOVE_PROJECT = 5;
    private static final int PROJECTS = 7;
    private static final int MAKE_FILE = 8;
    private static final int RESERVE = 12;
    private static final int ROOM = 20;
    private static final int RECOUNT = 22;
    private static final int COUNTED = 23;
    /** used, filesOf, usedByFiles, grace and counted. */
    private static final int[] ASKING = {16, 17, 18, 19, COUNTED};
    /** How often each call is drawn, in the order of NAMES. */
    private static final int[] WEIGHTS = {14, 6, 3, 12, 2, 9,
        2, 1, 8, 16, 2, 5, 8, 7, 9, 6,
        3, 2, 2, 4, 5, 1, 3, 4};

    private final AllotmentLedger ledger = new AllotmentLedger();
    private final PlainLedger plain = new PlainLedger();
    private final Random random;
    private final int run;
    private final Set<String> seen;
    private int calls = 0;
    private int files = 0;
    private int reservations = 0;

    private ModelTest(int run, Set<String> seen) {
        this.run = run;
        this.random = new Random(run);
        this.seen = seen;
    }

    public static void main(String[] args) {
        Set<String> seen = new HashSet<String>();
        for (int run = 0; run < RUNS; run++) {
            ModelTest test = new ModelTest(run, seen);
            boolean sweeps = run % 2 == 0;
            // anyCall may make as many calls more as a path has letters.
            while (test.calls < (sweeps ? CALLS_AHEAD_OF_SWEEP : CALLS) - 10) {
                test.anyCall();
            }
            if (sweeps) {
                test.sweep();
            }
        }
        dueSeen(seen);
        Check.end();
    }

    /** Runs that never come to an outcome would say nothing about it. */
    private static void dueSeen(Set<String> seen) {
        String[] outcomes = {
            "type IllegalArgumentException", "type IllegalStateException", "back IllegalStateException",
            "makeProject IllegalStateException", "findProject none", "moveProject IndexOutOfBoundsException",
            "moveProject IllegalStateException", "moveProject number", "letterAt IndexOutOfBoundsException",
            "makeFile IndexOutOfBoundsException", "makeFile IllegalStateException", "makeFile barred",
            "write IndexOutOfBoundsException", "write IllegalArgumentException", "write barred",
            "delete IndexOutOfBoundsException", "moveFile IndexOutOfBoundsException",
            "reserve IndexOutOfBoundsException", "reserve IllegalArgumentException",
            "reserve IllegalStateException", "reserve barred", "settle IndexOutOfBoundsException",
            "settle IllegalArgumentException", "settle number", "setLimits IndexOutOfBoundsException",
            "setLimits IllegalArgumentException", "pass IllegalArgumentException", "grace none", "room none",
            "recount IllegalArgumentException", "recount IllegalStateException",
            "counted IndexOutOfBoundsException", "counted IllegalStateException", "projects 21"};
        for (String outcome : outcomes) {
            Check.due("runs that came to " + outcome, 1, seen.contains(outcome) ? 1 : 0);
        }
    }

    private void anyCall() {
        int op = anyOp();
        if ((op == MAKE_PROJECT || op == MOVE_PROJECT) && random.nextInt(2) == 0) {
            typePathOf(random.nextInt(plain.projects()));
            if (op == MAKE_PROJECT) {
                call(TYPE, arguments(TYPE));
            }
        }
        call(op, arguments(op));
    }

    private int anyOp() {
        // Each run makes one of the calls far more often, to come to its bounds and its rare outcomes.
        if (random.nextInt(6) == 0) {
            return run % NAMES.length;
        }
        int total = 0;
        for (int weight : WEIGHTS) {
            total += weight;
        }
        int drawn = random.nextInt(total);
        int op = 0;
        while (drawn >= WEIGHTS[op]) {
            drawn -= WEIGHTS[op];
            op++;
        }
        return op;
    }

    private void typePathOf(int project) {
        call(CLEAR_PATH, new int[0]);
        for (int place = 0; plain.letterAt(project, place) != ' '; place++) {
            call(TYPE, new int[] {plain.letterAt(project, place)});
        }
    }

    private void call(int op, int[] a) {
        calls++;
        String want = Check.outcome(() -> onPlain(op, a));
        String got = Check.outcome(() -> onLedger(op, a));
        StringBuilder what = new StringBuilder("run " + run + " call " + calls + ": " + NAMES[op]);
        for (int argument : a) {
            what.append(' ').append(argument);
        }
        Check.dueOutcome(what.toString(), want, got);
        note(op, want);
    }

    private void note(int op, String outcome) {
        boolean thrown = outcome.endsWith("Exception");
        String sort = thrown ? outcome : outcome.equals("-1") ? "none" : outcome.startsWith("-") ? "barred" : "number";
        seen.add(NAMES[op] + " " + sort);
        if (op == PROJECTS) {
            seen.add("projects " + outcome);
        }
        if (sort.equals("number")) {
            files += op == MAKE_FILE ? 1 : 0;
            reservations += op == RESERVE ? 1 : 0;
        }
    }

    private void sweep() {
        int[] numbers = {6, 3, plain.projects()};
        for (int kind = 0; kind < 3; kind++) {
            for (int number = 0; number < numbers[kind]; number++) {
                for (int op : ASKING) {
                    call(op, new int[] {kind, number});
                }
            }
        }
        for (int file = 0; file < files; file++) {
            call(ROOM, new int[] {file});
        }
        call(RECOUNT, new int[] {40});
        call(COUNTED, new int[] {2, 0});
    }

    private int[] arguments(int op) {
        switch (op) {
            case 0: return new int[] {letter()};
            case 5: return new int[] {project()};
            case 6: return new int[] {project(), rare() ? oddNumber() : random.nextInt(9)};
            case 8: return new int[] {rare() ? oddNumber() : random.nextInt(6), project()};
            case 9: return new int[] {file(), blocks()};
            case 10: case 20: return new int[] {file()};
            case 11: return new int[] {file(), project()};
            case 12: return new int[] {file(), Math.abs(blocks())};
            case 13: return new int[] {rare() ? oddNumber() : random.nextInt(reservations + 1), Math.abs(blocks())};
            case 14: return limits();
            case 15: return new int[] {rare() ? oddNumber() : 1 + random.nextInt(30)};
            case 16: case 17: case 18: case 19: case 23: return account();
            case 22: return new int[] {rare() ? oddNumber() : 1 + random.nextInt(12)};
            default: return new int[0];
        }
    }

    private boolean rare() {
        return random.nextInt(25) == 0;
    }

    private int oddNumber() {
        int[] odd = {-1, -2, 0, 1, 5, 6, 7, 20, 21, 30, 40, 41, 48, 100, 101, 999, 1000, 1001, -1000, -1001, 100000,
            100001, Integer.MAX_VALUE, Integer.MIN_VALUE};
        return odd[random.nextInt(odd.length)];
    }

    private int letter() {
        return rare() ? random.nextInt(300) : 'a' + random.nextInt(run % 3 == 0 ? 1 : 3);
    }

    private int project() {
        return rare() ? oddNumber() : random.nextInt(plain.projects());
    }

    private int file() {
        return rare() ? oddNumber() : random.nextInt(files + 1);
    }

    private int blocks() {
        if (rare()) {
            return oddNumber();
        }
        int range = random.nextInt(4) == 0 ? 300 : 12;
        return random.nextInt(range + range / 2) - range / 2;
    }

    private int[] account() {
        int kind = rare() ? oddNumber() : random.nextInt(3);
        if (rare()) {
            return new int[] {kind, oddNumber()};
        }
        return new int[] {kind, kind == 0 ? random.nextInt(6) : kind == 1 ? random.nextInt(3) : project()};
    }

    private int[] limits() {
        int[] account = account();
        return new int[] {account[0], account[1], blockLimit(), blockLimit(), fileLimit()};
    }

    private int blockLimit() {
        if (rare()) {
            return oddNumber();
        }
        return random.nextInt(3) == 0 ? AllotmentLedger.NONE : random.nextInt(run % 4 == 0 ? 1500 : 150);
    }

    private int fileLimit() {
        return rare() ? oddNumber() : random.nextInt(3) != 0 ? AllotmentLedger.NONE : random.nextInt(20);
    }

    private long onLedger(int op, int[] a) {
        switch (op) {
            case 0: return ledger.type((char) a[0]);
            case 1: return ledger.back();
            case 2: return ledger.clearPath();
            case 3: return ledger.makeProject();
            case 4: return ledger.findProject();
            case 5: return ledger.moveProject(a[0]);
            case 6: return ledger.letterAt(a[0], a[1]);
            case 7: return ledger.projects();
            case 8: return ledger.makeFile(a[0], a[1]);
            case 9: return ledger.write(a[0], a[1]);
            case 10: return ledger.delete(a[0]);
            case 11: return ledger.moveFile(a[0], a[1]);
            case 12: return ledger.reserve(a[0], a[1]);
            case 13: return ledger.settle(a[0], a[1]);
            case 14: ledger.setLimits(a[0], a[1], a[2], a[3], a[4]); return 0;
            case 15: return ledger.pass(a[0]);
            case 16: return ledger.used(a[0], a[1]);
            case 17: return ledger.filesOf(a[0], a[1]);
            case 18: return ledger.usedByFiles(a[0], a[1]);
            case 19: return ledger.grace(a[0], a[1]);
            case 20: return ledger.room(a[0]);
            case 21: return ledger.beginRecount();
            case 22: return ledger.recount(a[0]);
            default: return ledger.counted(a[0], a[1]);
        }
    }

    private long onPlain(int op, int[] a) {
        switch (op) {
            case 0: return plain.type((char) a[0]);
            case 1: return plain.back();
            case 2: return plain.clearPath();
            case 3: return plain.makeProject();
            case 4: return plain.findProject();
            case 5: return plain.moveProject(a[0]);
            case 6: return plain.letterAt(a[0], a[1]);
            case 7: return plain.projects();
            case 8: return plain.makeFile(a[0], a[1]);
            case 9: return plain.write(a[0], a[1]);
            case 10: return plain.delete(a[0]);
            case 11: return plain.moveFile(a[0], a[1]);
            case 12: return plain.reserve(a[0], a[1]);
            case 13: return plain.settle(a[0], a[1]);
            case 14: plain.setLimits(a[0], a[1], a[2], a[3], a[4]); return 0;
            case 15: return plain.pass(a[0]);
            case 16: return plain.used(a[0], a[1]);
            case 17: return plain.filesOf(a[0], a[1]);
            case 18: return plain.usedByFiles(a[0], a[1]);
            case 19: return plain.grace(a[0], a[1]);
            case 20: return plain.room(a[0]);
            case 21: return plain.beginRecount();
            case 22: return plain.recount(a[0]);
            default: return plain.counted(a[0], a[1]);
        }
    }
}
