/** Promises 16 to 22: limits, time and what is used. */
public final class LimitsTest {
    private static final int USER = AllotmentLedger.USER;
    private static final int GROUP = AllotmentLedger.GROUP;
    private static final int PROJECT = AllotmentLedger.PROJECT;
    private static final int NONE = AllotmentLedger.NONE;

    /** One of the calls that ask for a number of an account. */
    private interface Question {
        int of(int kind, int number);
    }

    public static void main(String[] args) {
        settingLimits();
        settingWrongLimits();
        settingLimitsAndOver();
        passing();
        lastHour();
        using();
        countingFiles();
        wrongAccounts();
        grace();
        graceOfEachAccount();
        room();
        roomOfManyAccounts();
        Check.end();
    }

    private static void settingLimits() {
        AllotmentLedger ledger = Ledgers.withProjects("a");
        ledger.makeFile(4, 1);
        int[] kinds = {USER, GROUP, PROJECT, PROJECT};
        int[] numbers = {4, 1, 1, 0};
        for (int i = 0; i < kinds.length; i++) {
            ledger.setLimits(kinds[i], numbers[i], 0, 0, 0);
            Check.due("16: 0 blocks", -2 - i, ledger.write(0, 1));
            Check.due("16: 0 files", -2 - i, ledger.makeFile(4, 1));
            ledger.setLimits(kinds[i], numbers[i], 100000, 100000, 100);
        }
        Check.due("16: room", 100000, ledger.room(0));
        Check.due("16: a soft limit beyond the hard one", 0,
                Ledgers.limits(ledger, USER, 4, 10, 5, NONE));
        Check.due("16: the hard one bars", -2, ledger.write(0, 6));
        for (int i = 0; i < kinds.length; i++) {
            ledger.setLimits(kinds[i], numbers[i], NONE, NONE, NONE);
        }
        Check.due("16: no limits", NONE, ledger.room(0));
        Check.due("16: no limits of files", 1, ledger.makeFile(4, 1));
    }

    private static void settingWrongLimits() {
        AllotmentLedger ledger = Ledgers.withProjects("a");
        ledger.makeFile(0, 0);
        ledger.setLimits(USER, 0, NONE, 7, NONE);
        int[][] accounts = {{-1, 0}, {3, 0}, {USER, -1}, {USER, 6}, {GROUP, -1}, {GROUP, 3}, {PROJECT, -1}, {PROJECT, 2}};
        for (int[] account : accounts) {
            Check.throwsIndex("16: no account " + account[0] + " " + account[1],
                    () -> Ledgers.limits(ledger, account[0], account[1], 0, 0, 0));
            Check.throwsIndex("16: no account, limits wrong",
                    () -> Ledgers.limits(ledger, account[0], account[1], -2, 0, 0));
        }
        for (int wrong : new int[] {-2, 100001, Integer.MIN_VALUE, Integer.MAX_VALUE}) {
            Check.throwsArgument("16: soft " + wrong, () -> Ledgers.limits(ledger, USER, 0, wrong, 0, 0));
            Check.throwsArgument("16: hard " + wrong, () -> Ledgers.limits(ledger, USER, 0, 0, wrong, 0));
            Check.throwsArgument("16: files " + wrong, () -> Ledgers.limits(ledger, USER, 0, 0, 0, wrong));
        }
        Check.throwsArgument("16: files 101", () -> Ledgers.limits(ledger, USER, 0, 0, 0, 101));
        Check.due("16: wrong calls set nothing", 7, ledger.room(0));
        Check.due("16: nor a limit of files", 1, ledger.makeFile(0, 0));
    }

    private static void settingLimitsAndOver() {
        AllotmentLedger ledger = new AllotmentLedger();
        ledger.makeFile(0, 0);
        ledger.write(0, 20);
        ledger.pass(5);
        ledger.setLimits(USER, 0, 10, NONE, NONE);
        Check.due("16: over by a limit", 48, ledger.grace(USER, 0));
        ledger.pass(5);
        ledger.setLimits(USER, 0, 19, NONE, NONE);
        Check.due("16: over by another limit too", 43, ledger.grace(USER, 0));
        ledger.setLimits(USER, 0, 20, NONE, NONE);
        Check.due("16: at the limit", NONE, ledger.grace(USER, 0));
        ledger.setLimits(USER, 0, 0, NONE, NONE);
        Check.due("16: over anew", 48, ledger.grace(USER, 0));
        ledger.pass(1);
        ledger.setLimits(USER, 0, NONE, NONE, NONE);
        Check.due("16: without a soft limit", NONE, ledger.grace(USER, 0));
    }

    private static void passing() {
        AllotmentLedger ledger = new AllotmentLedger();
        Check.due("17: 1 hour", 1, ledger.pass(1));
        Check.due("17: 1000 hours", 1001, ledger.pass(1000));
        for (int wrong : new int[] {0, -1, 1001, Integer.MIN_VALUE, Integer.MAX_VALUE}) {
            Check.throwsArgument("17: hours " + wrong, () -> ledger.pass(wrong));
        }
        Check.due("17: wrong hours do not pass", 1002, ledger.pass(1));
    }

    private static void lastHour() {
        AllotmentLedger ledger = new AllotmentLedger();
        Ledgers.pass(ledger, 99500);
        Check.throwsState("17: 100500", () -> ledger.pass(1000));
        Check.throwsState("17: 100001", () -> ledger.pass(501));
        Check.throwsArgument("17: too many hours", () -> ledger.pass(1001));
        Check.due("17: the last hour", 100000, ledger.pass(500));
        Check.throwsState("17: beyond the last hour", () -> ledger.pass(1));
        Check.throwsArgument("17: no hours at the last hour", () -> ledger.pass(0));
    }

    private static AllotmentLedger withFiles() {
        AllotmentLedger ledger = Ledgers.withProjects("a", "ab", "b");
        ledger.makeFile(0, 2);
        ledger.makeFile(3, 1);
        ledger.makeFile(1, 3);
        ledger.makeFile(1, 0);
        ledger.makeFile(5, 2);
        ledger.write(0, 1);
        ledger.write(1, 10);
        ledger.write(2, 100);
        ledger.reserve(3, 1000);
        ledger.reserve(2, 900);
        ledger.reserve(2, 500);
        ledger.settle(1, 800);
        ledger.write(4, 50);
        ledger.delete(4);
        return ledger;
    }

    private static void using() {
        AllotmentLedger ledger = withFiles();
        int[] users = {1, 2400, 0, 10, 0, 0};
        int[] groups = {11, 2400, 0};
        int[] projects = {2411, 11, 1, 1400};
        int[][] used = {users, groups, projects};
        for (int kind = 0; kind < 3; kind++) {
            for (int number = 0; number < used[kind].length; number++) {
                Check.due("18: used of " + kind + " " + number, used[kind][number], ledger.used(kind, number));
                Check.due("20: by files of " + kind + " " + number, used[kind][number],
                        ledger.usedByFiles(kind, number));
            }
        }
    }

    private static void countingFiles() {
        AllotmentLedger ledger = withFiles();
        int[][] files = {{1, 2, 0, 1, 0, 0}, {2, 2, 0}, {4, 2, 1, 1}};
        for (int kind = 0; kind < 3; kind++) {
            for (int number = 0; number < files[kind].length; number++) {
                Check.due("19: files of " + kind + " " + number, files[kind][number], ledger.filesOf(kind, number));
            }
        }
    }

    private static void wrongAccounts() {
        AllotmentLedger ledger = Ledgers.withProjects("a");
        ledger.beginRecount();
        wrongAccounts("18: used", (kind, number) -> ledger.used(kind, number));
        wrongAccounts("19: filesOf", (kind, number) -> ledger.filesOf(kind, number));
        wrongAccounts("20: usedByFiles", (kind, number) -> ledger.usedByFiles(kind, number));
        wrongAccounts("21: grace", (kind, number) -> ledger.grace(kind, number));
        wrongAccounts("25: counted", (kind, number) -> ledger.counted(kind, number));
    }

    private static void wrongAccounts(String name, Question question) {
        int[][] accounts = {{-1, 0}, {3, 0}, {USER, -1}, {USER, 6}, {GROUP, -1}, {GROUP, 3}, {PROJECT, -1}, {PROJECT, 2},
            {Integer.MIN_VALUE, 0}, {PROJECT, Integer.MIN_VALUE}, {PROJECT, Integer.MAX_VALUE}};
        for (int[] account : accounts) {
            Check.throwsIndex(name + " of " + account[0] + " " + account[1],
                    () -> question.of(account[0], account[1]));
        }
        int[][] last = {{USER, 5}, {GROUP, 2}, {PROJECT, 1}};
        for (int[] account : last) {
            Check.due(name + " of the last account", name.startsWith("21") ? NONE : 0,
                    question.of(account[0], account[1]));
        }
    }

    private static void grace() {
        AllotmentLedger ledger = new AllotmentLedger();
        ledger.makeFile(0, 0);
        ledger.pass(7);
        ledger.setLimits(USER, 0, 10, NONE, NONE);
        ledger.write(0, 10);
        Check.due("21: at the soft limit", NONE, ledger.grace(USER, 0));
        ledger.write(0, 1);
        Check.due("21: just over", 48, ledger.grace(USER, 0));
        ledger.pass(1);
        ledger.write(0, 5);
        Check.due("21: more does not begin it anew", 47, ledger.grace(USER, 0));
        ledger.pass(46);
        Check.due("21: the last hour", 1, ledger.grace(USER, 0));
        ledger.pass(1);
        Check.due("21: gone", 0, ledger.grace(USER, 0));
        ledger.pass(1000);
        Check.due("21: long gone", 0, ledger.grace(USER, 0));
        ledger.write(0, -6);
        Check.due("21: not over", NONE, ledger.grace(USER, 0));
        ledger.reserve(0, 1);
        Check.due("21: over by a reservation", 48, ledger.grace(USER, 0));
        ledger.settle(0, 0);
        Check.due("21: it is given up", NONE, ledger.grace(USER, 0));
    }

    private static void graceOfEachAccount() {
        AllotmentLedger ledger = Ledgers.withProjects("a", "ab");
        ledger.makeFile(2, 2);
        int[] kinds = {USER, GROUP, PROJECT, PROJECT, PROJECT};
        int[] numbers = {2, 2, 2, 1, 0};
        for (int i = 0; i < kinds.length; i++) {
            ledger.setLimits(kinds[i], numbers[i], i, NONE, NONE);
        }
        for (int i = 0; i < kinds.length; i++) {
            ledger.write(0, 1);
            ledger.pass(1);
        }
        for (int i = 0; i < kinds.length; i++) {
            Check.due("21: over one after the other", 43 + i, ledger.grace(kinds[i], numbers[i]));
        }
    }

    private static void room() {
        AllotmentLedger ledger = new AllotmentLedger();
        ledger.makeFile(0, 0);
        Check.due("22: no account bars", NONE, ledger.room(0));
        ledger.setLimits(USER, 0, 5, NONE, 1);
        Check.due("22: a soft limit alone", NONE, ledger.room(0));
        ledger.write(0, 6);
        ledger.pass(47);
        Check.due("22: grace of an hour", NONE, ledger.room(0));
        ledger.pass(1);
        Check.due("22: grace gone", 0, ledger.room(0));
        ledger.setLimits(USER, 0, NONE, 100000, NONE);
        Check.due("22: more than can be written at a time", 99994, ledger.room(0));
        ledger.setLimits(USER, 0, NONE, 6, NONE);
        Check.due("22: at the hard limit", 0, ledger.room(0));
        ledger.setLimits(USER, 0, NONE, 3, NONE);
        Check.due("22: beyond the hard limit", 0, ledger.room(0));
        Check.throwsIndex("22: file -1", () -> ledger.room(-1));
        Check.throwsIndex("22: file 1", () -> ledger.room(1));
        ledger.delete(0);
        Check.throwsIndex("22: a deleted file", () -> ledger.room(0));
    }

    private static void roomOfManyAccounts() {
        AllotmentLedger ledger = Ledgers.withProjects("a", "ab", "b");
        ledger.makeFile(4, 2);
        ledger.makeFile(1, 3);
        ledger.write(0, 10);
        ledger.reserve(1, 20);
        ledger.setLimits(PROJECT, 0, NONE, 100, NONE);
        Check.due("22: by the root", 70, ledger.room(0));
        ledger.setLimits(PROJECT, 1, NONE, 79, NONE);
        Check.due("22: by the parent", 69, ledger.room(0));
        ledger.setLimits(PROJECT, 2, NONE, 78, NONE);
        Check.due("22: by its project", 68, ledger.room(0));
        ledger.setLimits(GROUP, 1, NONE, 97, NONE);
        Check.due("22: by the group", 67, ledger.room(0));
        ledger.setLimits(USER, 4, NONE, 76, NONE);
        Check.due("22: by the owner", 66, ledger.room(0));
        ledger.setLimits(PROJECT, 3, NONE, 0, NONE);
        Check.due("22: not by another project", 66, ledger.room(0));
        Check.due("22: that bars its own", 0, ledger.room(1));
        Check.due("22: as many can be written", 76, ledger.write(0, 66));
        Check.due("22: and no more", -2, ledger.write(0, 1));
    }
}
