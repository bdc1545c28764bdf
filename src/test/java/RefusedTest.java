/**
 * "A call that throws an exception changes nothing; if several exceptions apply, the one that its throws
 * clause names first is thrown." Each refused call of each promise, and what can be seen behind it.
 */
public final class RefusedTest {
    private static final int USER = AllotmentLedger.USER;
    private static final int GROUP = AllotmentLedger.GROUP;
    private static final int PROJECT = AllotmentLedger.PROJECT;
    private static final int NONE = AllotmentLedger.NONE;
    private static final String INDEX = Refusals.INDEX;
    private static final String ARGUMENT = Refusals.ARGUMENT;
    private static final String STATE = Refusals.STATE;
    private static final int LOWEST = Integer.MIN_VALUE;
    private static final int HIGHEST = Integer.MAX_VALUE;

    private static final int DELETED_FILE = 3;
    private static final int CLOSED_RESERVATION = 0;
    private static final int GIVEN_UP_RESERVATION = 3;

    public static void main(String[] args) {
        promise2Type();
        promise3Back();
        promise5MakeProject();
        promise7MoveProjectIndex();
        promise7MoveProjectState();
        promise8LetterAt();
        promise10MakeFile();
        promise10MakeFileBarred();
        promise11Write();
        promise11WriteBarred();
        promise12Delete();
        promise13MoveFile();
        promise14Reserve();
        promise14ReserveBarred();
        promise14ReserveAtItsBound();
        promise15Settle();
        promise16SetLimits();
        promise16RefusedLimitsSetNone();
        promise17Pass();
        promises18To25OfNoAccount();
        promise22Room();
        promise24Recount();
        promise25Counted();
        Check.end();
    }

    /** Five projects, four files, four reservations, limits, grace that runs, and half of a recount. */
    private static AllotmentLedger busy(String buffer) {
        AllotmentLedger ledger = Ledgers.withProjects("a", "ab", "abc", "b", "bb");
        int[] owners = {0, 4, 5, 3};
        int[] projects = {2, 3, 5, 0};
        for (int file = 0; file < owners.length; file++) {
            ledger.makeFile(owners[file], projects[file]);
            ledger.write(file, 10 + file);
            ledger.reserve(file, 4 + file);
        }
        ledger.settle(CLOSED_RESERVATION, 3);
        ledger.delete(DELETED_FILE);
        ledger.pass(10);
        ledger.setLimits(USER, 0, 5, NONE, 1);
        ledger.setLimits(GROUP, 1, 10, 20, NONE);
        ledger.setLimits(PROJECT, 4, NONE, 20, 1);
        ledger.pass(7);
        ledger.beginRecount();
        ledger.recount(2);
        Ledgers.path(ledger, buffer);
        return ledger;
    }

    private static AllotmentLedger busy() {
        return busy("ab");
    }

    private static void due(String what, String outcome, Refusals.Call call) {
        Refusals.due(what, outcome, () -> busy(), call);
    }

    private static void dueAt(String what, String buffer, String outcome, Refusals.Call call) {
        Refusals.due(what, outcome, () -> busy(buffer), call);
    }

    private static AllotmentLedger deep() {
        AllotmentLedger ledger = Ledgers.withProjects(
                "a", "ab", "abc", "abcd", "abcde", "abcdef", "abcdefg", "abcdefgh", "x", "xy");
        Ledgers.path(ledger, "abcdefgh");
        return ledger;
    }

    private static void promise2Type() {
        for (char letter : new char[] {'`', '{', 'A', 'Z', ' ', 0, 225, 65535}) {
            due("2: a wrong letter", ARGUMENT, ledger -> ledger.type(letter));
            Refusals.due("2: a wrong letter behind 8", ARGUMENT, () -> deep(), ledger -> ledger.type(letter));
        }
        Refusals.due("2: a ninth letter", STATE, () -> deep(), ledger -> ledger.type('i'));
    }

    private static void promise3Back() {
        dueAt("3: back of an empty buffer", "", STATE, ledger -> ledger.back());
        Refusals.due("3: back of a new one", STATE, () -> new AllotmentLedger(), ledger -> ledger.back());
    }

    private static void promise5MakeProject() {
        dueAt("5: the root is there", "", STATE, ledger -> ledger.makeProject());
        dueAt("5: a is there", "a", STATE, ledger -> ledger.makeProject());
        dueAt("5: abc is there", "abc", STATE, ledger -> ledger.makeProject());
        dueAt("5: its parent c is not there", "ca", STATE, ledger -> ledger.makeProject());
        dueAt("5: its parent bba is not there", "bbaa", STATE, ledger -> ledger.makeProject());
        Refusals.due("5: project 21", STATE, () -> withAllProjects("z"), ledger -> ledger.makeProject());
        Refusals.due("5: project 21 is there", STATE, () -> withAllProjects("a"), ledger -> ledger.makeProject());
        Refusals.due("5: project 21 without a parent", STATE, () -> withAllProjects("zz"),
                ledger -> ledger.makeProject());
    }

    private static AllotmentLedger withAllProjects(String buffer) {
        AllotmentLedger ledger = new AllotmentLedger();
        for (char letter = 'a'; letter <= 't'; letter++) {
            Ledgers.path(ledger, Character.toString(letter));
            ledger.makeProject();
        }
        Ledgers.path(ledger, buffer);
        return ledger;
    }

    private static void promise7MoveProjectIndex() {
        for (int project : new int[] {-1, 6, LOWEST, HIGHEST}) {
            dueAt("7: no project, to the root", "", INDEX, ledger -> ledger.moveProject(project));
            dueAt("7: no project, to a path of none", "q", INDEX, ledger -> ledger.moveProject(project));
        }
    }

    private static void promise7MoveProjectState() {
        dueAt("7: the root to itself", "", STATE, ledger -> ledger.moveProject(0));
        dueAt("7: the root to another", "a", STATE, ledger -> ledger.moveProject(0));
        dueAt("7: to a path of none", "q", STATE, ledger -> ledger.moveProject(2));
        dueAt("7: to a path of none within one", "aq", STATE, ledger -> ledger.moveProject(4));
        dueAt("7: to itself", "ab", STATE, ledger -> ledger.moveProject(2));
        dueAt("7: to one within it", "abc", STATE, ledger -> ledger.moveProject(2));
        dueAt("7: to one deep within it", "abc", STATE, ledger -> ledger.moveProject(1));
        dueAt("7: its new path ab is another's", "a", STATE, ledger -> ledger.moveProject(5));
        dueAt("7: its new path b is another's", "", STATE, ledger -> ledger.moveProject(5));
        dueAt("7: its new path bb is another's", "b", STATE, ledger -> ledger.moveProject(2));
        Refusals.due("7: nine letters", STATE, () -> deep(), ledger -> ledger.moveProject(10));
        Refusals.due("7: nine letters of one within it", STATE, () -> deepAt("abcdefg"),
                ledger -> ledger.moveProject(9));
    }

    private static AllotmentLedger deepAt(String buffer) {
        AllotmentLedger ledger = deep();
        Ledgers.path(ledger, buffer);
        return ledger;
    }

    private static void promise8LetterAt() {
        for (int project : new int[] {-1, 6, LOWEST, HIGHEST}) {
            due("8: no project", INDEX, ledger -> ledger.letterAt(project, 0));
            due("8: no project, a wrong place", INDEX, ledger -> ledger.letterAt(project, -1));
        }
        for (int project : new int[] {0, 3}) {
            due("8: place -1", INDEX, ledger -> ledger.letterAt(project, -1));
            due("8: the lowest place", INDEX, ledger -> ledger.letterAt(project, LOWEST));
        }
    }

    private static AllotmentLedger withAllFiles() {
        AllotmentLedger ledger = Ledgers.withProjects("a");
        for (int file = 0; file < 40; file++) {
            ledger.makeFile(file % 6, file % 2);
        }
        ledger.write(39, 7);
        ledger.delete(11);
        return ledger;
    }

    private static void promise10MakeFile() {
        int[][] none = {{-1, 0}, {6, 0}, {LOWEST, 0}, {HIGHEST, 0}, {1, -1}, {1, 6}, {1, LOWEST}, {1, HIGHEST},
            {-1, 6}};
        for (int[] a : none) {
            due("10: no user or project", INDEX, ledger -> ledger.makeFile(a[0], a[1]));
            Refusals.due("10: no user or project for file 40", INDEX, () -> withAllFiles(),
                    ledger -> ledger.makeFile(a[0], a[1]));
        }
        Refusals.due("10: file 40", STATE, () -> withAllFiles(), ledger -> ledger.makeFile(0, 0));
        Refusals.due("10: file 40, barred too", STATE, () -> {
            AllotmentLedger ledger = withAllFiles();
            ledger.setLimits(USER, 0, NONE, NONE, 0);
            return ledger;
        }, ledger -> ledger.makeFile(0, 0));
    }

    private static void promise10MakeFileBarred() {
        due("10: barred by the owner", Refusals.barredAt(0), ledger -> ledger.makeFile(0, 0));
        due("10: barred by its project", Refusals.barredAt(2), ledger -> ledger.makeFile(1, 4));
        due("10: barred by its parent", Refusals.barredAt(3), ledger -> ledger.makeFile(1, 5));
    }

    private static void promise11Write() {
        for (int file : new int[] {-1, 4, DELETED_FILE, LOWEST, HIGHEST}) {
            due("11: no file", INDEX, ledger -> ledger.write(file, 1));
            due("11: no file, too many blocks", INDEX, ledger -> ledger.write(file, 1001));
            due("11: no file, too few blocks", INDEX, ledger -> ledger.write(file, -1001));
            due("11: no file, fewer than 0", INDEX, ledger -> ledger.write(file, -1000));
        }
        for (int blocks : new int[] {1001, -1001, LOWEST, HIGHEST, -14, -1000}) {
            due("11: blocks out of range " + blocks, ARGUMENT, ledger -> ledger.write(0, blocks));
        }
        due("11: fewer than 0 without reserved ones", ARGUMENT, ledger -> ledger.write(1, -12));
        due("11: too many blocks, barred too", ARGUMENT, ledger -> ledger.write(2, 1001));
    }

    private static void promise11WriteBarred() {
        due("11: barred by the group", Refusals.barredAt(1), ledger -> ledger.write(1, 1000));
        due("11: barred by the parent", Refusals.barredAt(3), ledger -> ledger.write(2, 3));
        Refusals.due("11: barred, grace gone", Refusals.barredAt(0), () -> withGraceGone(),
                ledger -> ledger.write(0, 1));
    }

    private static AllotmentLedger withGraceGone() {
        AllotmentLedger ledger = busy();
        ledger.pass(41);
        return ledger;
    }

    private static void promise12Delete() {
        for (int file : new int[] {-1, 4, DELETED_FILE, LOWEST, HIGHEST}) {
            due("12: no file " + file, INDEX, ledger -> ledger.delete(file));
        }
    }

    private static void promise13MoveFile() {
        for (int file : new int[] {-1, 4, DELETED_FILE, LOWEST, HIGHEST}) {
            due("13: no file " + file, INDEX, ledger -> ledger.moveFile(file, 1));
            due("13: no file and no project", INDEX, ledger -> ledger.moveFile(file, 6));
        }
        for (int project : new int[] {-1, 6, LOWEST, HIGHEST}) {
            due("13: no project " + project, INDEX, ledger -> ledger.moveFile(0, project));
        }
    }

    private static void promise14Reserve() {
        for (int file : new int[] {-1, 4, DELETED_FILE, LOWEST, HIGHEST}) {
            due("14: no file", INDEX, ledger -> ledger.reserve(file, 1));
            due("14: no file, no blocks", INDEX, ledger -> ledger.reserve(file, 0));
            due("14: no file, too many blocks", INDEX, ledger -> ledger.reserve(file, 1001));
        }
        for (int blocks : new int[] {0, -1, 1001, LOWEST, HIGHEST}) {
            due("14: blocks out of range " + blocks, ARGUMENT, ledger -> ledger.reserve(0, blocks));
        }
        due("14: too many blocks, barred too", ARGUMENT, ledger -> ledger.reserve(2, 1001));
    }

    private static void promise14ReserveBarred() {
        due("14: barred by the group", Refusals.barredAt(1), ledger -> ledger.reserve(1, 1000));
        due("14: barred by the parent", Refusals.barredAt(3), ledger -> ledger.reserve(2, 3));
        Refusals.due("14: barred, grace gone", Refusals.barredAt(0), () -> withGraceGone(),
                ledger -> ledger.reserve(0, 1));
    }

    private static AllotmentLedger withAllReservations() {
        AllotmentLedger ledger = Ledgers.withProjects("a");
        ledger.makeFile(0, 1);
        ledger.makeFile(1, 1);
        ledger.delete(1);
        for (int i = 0; i < 30; i++) {
            ledger.reserve(0, 1 + i);
        }
        ledger.settle(4, 2);
        return ledger;
    }

    private static void promise14ReserveAtItsBound() {
        Refusals.Maker full = () -> withAllReservations();
        Refusals.due("14: reservation 30, one is closed", STATE, full, ledger -> ledger.reserve(0, 1));
        Refusals.due("14: reservation 30 of 0 blocks", ARGUMENT, full, ledger -> ledger.reserve(0, 0));
        Refusals.due("14: reservation 30 of 1001 blocks", ARGUMENT, full, ledger -> ledger.reserve(0, 1001));
        for (int file : new int[] {-1, 1, 2}) {
            Refusals.due("14: reservation 30 for no file", INDEX, full, ledger -> ledger.reserve(file, 1));
            Refusals.due("14: reservation 30 of 0 blocks for no file", INDEX, full, ledger -> ledger.reserve(file, 0));
        }
        Refusals.due("14: reservation 30, barred too", STATE, () -> {
            AllotmentLedger ledger = withAllReservations();
            ledger.setLimits(USER, 0, NONE, 0, NONE);
            return ledger;
        }, ledger -> ledger.reserve(0, 1));
    }

    private static void promise15Settle() {
        for (int reservation : new int[] {-1, 4, CLOSED_RESERVATION, GIVEN_UP_RESERVATION, LOWEST, HIGHEST}) {
            due("15: not open", INDEX, ledger -> ledger.settle(reservation, 0));
            due("15: not open, too few blocks", INDEX, ledger -> ledger.settle(reservation, -1));
            due("15: not open, too many blocks", INDEX, ledger -> ledger.settle(reservation, 1001));
        }
        for (int blocks : new int[] {-1, 6, LOWEST, HIGHEST}) {
            due("15: of 5 blocks " + blocks, ARGUMENT, ledger -> ledger.settle(1, blocks));
        }
    }

    private static void promise16SetLimits() {
        int[][] none = {{-1, 0}, {3, 0}, {LOWEST, 0}, {HIGHEST, 0}, {USER, -1}, {USER, 6}, {GROUP, -1}, {GROUP, 3},
            {PROJECT, -1}, {PROJECT, 6}, {PROJECT, LOWEST}, {PROJECT, HIGHEST}};
        for (int[] a : none) {
            due("16: no account", INDEX, ledger -> Ledgers.limits(ledger, a[0], a[1], 0, 0, 0));
            due("16: no account, soft wrong", INDEX, ledger -> Ledgers.limits(ledger, a[0], a[1], -2, 0, 0));
            due("16: no account, hard wrong", INDEX, ledger -> Ledgers.limits(ledger, a[0], a[1], 0, 100001, 0));
            due("16: no account, files wrong", INDEX, ledger -> Ledgers.limits(ledger, a[0], a[1], 0, 0, 101));
        }
        int[][] wrong = {{-2, 0, 0}, {100001, 0, 0}, {0, -2, 0}, {0, 100001, 0}, {0, 0, -2}, {0, 0, 101},
            {LOWEST, 0, 0}, {0, LOWEST, 0}, {0, 0, LOWEST}, {HIGHEST, 0, 0}, {0, HIGHEST, 0}, {0, 0, HIGHEST},
            {NONE, NONE, 101}, {NONE, 100001, NONE}, {100001, NONE, NONE}};
        for (int[] a : wrong) {
            due("16: a wrong limit", ARGUMENT, ledger -> Ledgers.limits(ledger, USER, 0, a[0], a[1], a[2]));
            due("16: a wrong limit", ARGUMENT, ledger -> Ledgers.limits(ledger, PROJECT, 2, a[0], a[1], a[2]));
        }
    }

    /** Limits are not answered by any call: here they are felt for, one after the other. */
    private static void promise16RefusedLimitsSetNone() {
        int[][] wrong = {{-2, 0, 0}, {100001, 0, 0}, {0, -2, 0}, {0, 100001, 0}, {0, 0, -2}, {0, 0, 101}};
        int[][] accounts = {{USER, 2}, {GROUP, 2}, {PROJECT, 0}, {PROJECT, 1}};
        for (int place = 0; place < accounts.length; place++) {
            for (int[] a : wrong) {
                refusedLimitsSetNone(accounts[place], a);
            }
        }
    }

    private static void refusedLimitsSetNone(int[] account, int[] a) {
        AllotmentLedger ledger = Ledgers.withProjects("a");
        ledger.makeFile(2, 1);
        ledger.setLimits(account[0], account[1], 3, 5, 2);
        Check.throwsArgument("16: a wrong limit",
                () -> Ledgers.limits(ledger, account[0], account[1], a[0], a[1], a[2]));
        Check.due("16: the hard limit stays", 5, ledger.room(0));
        ledger.write(0, 3);
        Check.due("16: the soft limit stays", NONE, ledger.grace(account[0], account[1]));
        ledger.write(0, 1);
        Check.due("16: and no other", 48, ledger.grace(account[0], account[1]));
        Check.due("16: the limit of files stays", 1, ledger.makeFile(2, 1));
        Check.due("16: and no other", 1, ledger.makeFile(2, 1) < NONE ? 1 : 0);
    }

    private static AllotmentLedger atHour(int hour) {
        AllotmentLedger ledger = new AllotmentLedger();
        Ledgers.pass(ledger, hour);
        return ledger;
    }

    private static void promise17Pass() {
        for (int hours : new int[] {0, -1, 1001, LOWEST, HIGHEST}) {
            due("17: hours out of range " + hours, ARGUMENT, ledger -> ledger.pass(hours));
            Refusals.due("17: wrong hours at the last hour", ARGUMENT, () -> atHour(100000),
                    ledger -> ledger.pass(hours));
        }
        Refusals.due("17: hour 100001 from 100000", STATE, () -> atHour(100000), ledger -> ledger.pass(1));
        Refusals.due("17: hour 100001 from 99999", STATE, () -> atHour(99999), ledger -> ledger.pass(2));
        Refusals.due("17: hour 100001 from 99001", STATE, () -> atHour(99001), ledger -> ledger.pass(1000));
    }

    private static void promises18To25OfNoAccount() {
        int[][] none = {{-1, 0}, {3, 0}, {LOWEST, 0}, {HIGHEST, 0}, {USER, -1}, {USER, 6}, {GROUP, -1}, {GROUP, 3},
            {GROUP, 5}, {PROJECT, -1}, {PROJECT, 6}, {PROJECT, LOWEST}, {PROJECT, HIGHEST}};
        for (int[] a : none) {
            due("18: used of no account", INDEX, ledger -> ledger.used(a[0], a[1]));
            due("19: filesOf of no account", INDEX, ledger -> ledger.filesOf(a[0], a[1]));
            due("20: usedByFiles of no account", INDEX, ledger -> ledger.usedByFiles(a[0], a[1]));
            due("21: grace of no account", INDEX, ledger -> ledger.grace(a[0], a[1]));
            due("25: counted of no account", INDEX, ledger -> ledger.counted(a[0], a[1]));
            Refusals.due("25: counted of no account, no recount begun", INDEX,
                    () -> Ledgers.withProjects("a", "b", "c", "d", "e"), ledger -> ledger.counted(a[0], a[1]));
        }
    }

    private static void promise22Room() {
        for (int file : new int[] {-1, 4, DELETED_FILE, LOWEST, HIGHEST}) {
            due("22: no file " + file, INDEX, ledger -> ledger.room(file));
        }
    }

    private static void promise24Recount() {
        for (int files : new int[] {0, -1, 41, LOWEST, HIGHEST}) {
            due("24: files out of range " + files, ARGUMENT, ledger -> ledger.recount(files));
            Refusals.due("24: files out of range, not begun", ARGUMENT, () -> withAllFiles(),
                    ledger -> ledger.recount(files));
        }
        Refusals.due("24: not begun", STATE, () -> withAllFiles(), ledger -> ledger.recount(1));
        Refusals.due("24: not begun, all files", STATE, () -> withAllFiles(), ledger -> ledger.recount(40));
        Refusals.due("24: not begun, no files", STATE, () -> new AllotmentLedger(), ledger -> ledger.recount(1));
    }

    private static void promise25Counted() {
        for (int[] a : new int[][] {{USER, 0}, {USER, 5}, {GROUP, 2}, {PROJECT, 0}, {PROJECT, 1}}) {
            Refusals.due("25: not begun", STATE, () -> withAllFiles(), ledger -> ledger.counted(a[0], a[1]));
        }
    }
}
