/** Promises 16 to 22, each sentence that names a bound: just inside it, at it, the empty and the full state. */
public final class LimitEdgesTest {
    private static final int USER = AllotmentLedger.USER;
    private static final int GROUP = AllotmentLedger.GROUP;
    private static final int PROJECT = AllotmentLedger.PROJECT;
    private static final int NONE = AllotmentLedger.NONE;

    /** One of the calls that ask for a number of an account. */
    private interface Question {
        int of(AllotmentLedger ledger, int kind, int number);
    }

    public static void main(String[] args) {
        promise16BoundsOfSoft();
        promise16BoundsOfHard();
        promise16BoundsOfFiles();
        promise16AllLimitsAtOnce();
        promise16SoftBeyondHard();
        promise16OneAccountAlone();
        promise16FirstAndLastAccount();
        promise16ProjectsOfLater();
        promise17OneAndThousandHours();
        promise17LastHour();
        promise17GraceAtTheLastHour();
        promise18FirstAndLastAccount();
        promise19FirstAndLastAccount();
        promise20FirstAndLastAccount();
        promise21FirstAndLastAccount();
        promise18To20WithoutFiles();
        promise20SameAsUsed();
        promise21EachHour();
        promise21NotOver();
        promise22UpToTheHardLimit();
        promise22OneMoreIsBarred();
        promise22MoreThanThousand();
        promise22NoneWithoutHardLimits();
        promise22LeastOfAll();
        promise22LastFile();
        Check.end();
    }

    private static AllotmentLedger withFile() {
        AllotmentLedger ledger = new AllotmentLedger();
        ledger.makeFile(0, 0);
        return ledger;
    }

    // "soft: 0 to 100000 blocks, or NONE"
    private static void promise16BoundsOfSoft() {
        AllotmentLedger ledger = withFile();
        Check.throwsArgument("16: soft -2", () -> Ledgers.limits(ledger, USER, 0, -2, NONE, NONE));
        Check.throwsArgument("16: soft 100001", () -> Ledgers.limits(ledger, USER, 0, 100001, NONE, NONE));
        ledger.write(0, 1);
        Check.due("16: soft 0", 0, Ledgers.limits(ledger, USER, 0, 0, NONE, NONE));
        Check.due("21: over 0", 48, ledger.grace(USER, 0));
        Check.due("16: soft NONE", 0, Ledgers.limits(ledger, USER, 0, NONE, NONE, NONE));
        Check.due("21: over nothing", NONE, ledger.grace(USER, 0));
        Check.due("16: soft 100000", 0, Ledgers.limits(ledger, USER, 0, 100000, NONE, NONE));
        for (int call = 0; call < 99; call++) {
            ledger.write(0, 1000);
        }
        ledger.write(0, 999);
        Check.due("21: at 100000", NONE, ledger.grace(USER, 0));
        ledger.write(0, 1);
        Check.due("21: over 100000", 48, ledger.grace(USER, 0));
    }

    // "hard: 0 to 100000 blocks, or NONE"
    private static void promise16BoundsOfHard() {
        AllotmentLedger ledger = withFile();
        Check.throwsArgument("16: hard -2", () -> Ledgers.limits(ledger, USER, 0, NONE, -2, NONE));
        Check.throwsArgument("16: hard 100001", () -> Ledgers.limits(ledger, USER, 0, NONE, 100001, NONE));
        Check.due("16: hard 0", 0, Ledgers.limits(ledger, USER, 0, NONE, 0, NONE));
        Check.due("11: one of 0", -2, ledger.write(0, 1));
        Check.due("16: hard NONE", 0, Ledgers.limits(ledger, USER, 0, NONE, NONE, NONE));
        Check.due("22: any number", NONE, ledger.room(0));
        Check.due("16: hard 100000", 0, Ledgers.limits(ledger, USER, 0, NONE, 100000, NONE));
        Check.due("22: room of 100000", 100000, ledger.room(0));
        for (int call = 0; call < 100; call++) {
            ledger.write(0, 1000);
        }
        Check.due("11: up to 100000", 100000, ledger.write(0, 0));
        Check.due("11: one more", -2, ledger.write(0, 1));
    }

    // "files: 0 to 100 files (a hard limit), or NONE"
    private static void promise16BoundsOfFiles() {
        AllotmentLedger ledger = new AllotmentLedger();
        Check.throwsArgument("16: files -2", () -> Ledgers.limits(ledger, USER, 0, NONE, NONE, -2));
        Check.throwsArgument("16: files 101", () -> Ledgers.limits(ledger, USER, 0, NONE, NONE, 101));
        Check.due("16: files 0", 0, Ledgers.limits(ledger, USER, 0, NONE, NONE, 0));
        Check.due("10: one of 0", -2, ledger.makeFile(0, 0));
        Check.due("16: files 1", 0, Ledgers.limits(ledger, USER, 0, NONE, NONE, 1));
        Check.due("10: one of 1", 0, ledger.makeFile(0, 0));
        Check.due("10: two of 1", -2, ledger.makeFile(0, 0));
        Check.due("16: files 100", 0, Ledgers.limits(ledger, USER, 0, NONE, NONE, 100));
        Check.due("10: two of 100", 1, ledger.makeFile(0, 0));
        Check.due("16: files NONE", 0, Ledgers.limits(ledger, USER, 0, NONE, NONE, NONE));
        Check.due("10: a third", 2, ledger.makeFile(0, 0));
        Check.due("22: a limit of files is none of blocks", NONE, ledger.room(0));
    }

    private static void promise16AllLimitsAtOnce() {
        AllotmentLedger ledger = withFile();
        Check.due("16: all are set", 0, Ledgers.limits(ledger, GROUP, 0, 3, 5, 2));
        ledger.write(0, 4);
        Check.due("21: the soft one", 48, ledger.grace(GROUP, 0));
        Check.due("11: the hard one", -3, ledger.write(0, 2));
        Check.due("10: that of files", 1, ledger.makeFile(3, 0));
        Check.due("10: and no more", -3, ledger.makeFile(3, 0));
        Check.due("16: others in their place", 0, Ledgers.limits(ledger, GROUP, 0, 4, NONE, 3));
        Check.due("21: the soft one is another", NONE, ledger.grace(GROUP, 0));
        Check.due("22: the hard one is gone", NONE, ledger.room(0));
        Check.due("10: that of files is another", 2, ledger.makeFile(3, 0));
        Check.due("10: and no more than that", -3, ledger.makeFile(3, 0));
    }

    private static void promise16SoftBeyondHard() {
        AllotmentLedger ledger = withFile();
        Check.due("16: soft beyond hard", 0, Ledgers.limits(ledger, USER, 0, 100000, 0, NONE));
        Check.due("11: the hard one bars", -2, ledger.write(0, 1));
        Check.due("21: it is not over", NONE, ledger.grace(USER, 0));
    }

    private static void promise16OneAccountAlone() {
        AllotmentLedger ledger = Ledgers.withProjects("a", "ab");
        ledger.makeFile(0, 1);
        ledger.write(0, 10);
        ledger.setLimits(PROJECT, 1, 5, 5, 5);
        int[][] others = {{USER, 0}, {GROUP, 0}, {PROJECT, 0}, {PROJECT, 2}};
        for (int[] other : others) {
            Check.due("21: no limits of others", NONE, ledger.grace(other[0], other[1]));
        }
        Check.due("21: its own", 48, ledger.grace(PROJECT, 1));
        Check.due("11: it bars, none ahead of it does", -4, ledger.write(0, 1));
    }

    // "Throws IndexOutOfBoundsException if there is no such kind or account"
    private static void promise16FirstAndLastAccount() {
        AllotmentLedger ledger = Ledgers.withProjects("a", "b");
        dueBounds("16: setLimits", 0, ledger,
                (asked, kind, number) -> (int) Ledgers.limits(asked, kind, number, 1, 2, 3));
        Check.throwsIndex("16: no account, limits wrong", () -> Ledgers.limits(ledger, 3, 0, -2, -2, -2));
        Check.throwsIndex("16: no user 6, limits wrong", () -> Ledgers.limits(ledger, USER, 6, -2, -2, -2));
    }

    /** The ledger has projects 1 and 2 beside the root. */
    private static void dueBounds(String name, int answer, AllotmentLedger ledger, Question question) {
        int[] last = {5, 2, 2};
        for (int kind = 0; kind < 3; kind++) {
            int of = kind;
            Check.due(name + " of the first of kind " + kind, answer, question.of(ledger, kind, 0));
            Check.due(name + " of the last of kind " + kind, answer, question.of(ledger, kind, last[kind]));
            Check.throwsIndex(name + " ahead of the first of " + kind, () -> question.of(ledger, of, -1));
            Check.throwsIndex(name + " behind the last of " + kind, () -> question.of(ledger, of, last[of] + 1));
            Check.throwsIndex(name + " lowest of " + kind, () -> question.of(ledger, of, Integer.MIN_VALUE));
            Check.throwsIndex(name + " highest of " + kind, () -> question.of(ledger, of, Integer.MAX_VALUE));
        }
        for (int kind : new int[] {-1, 3, Integer.MIN_VALUE, Integer.MAX_VALUE}) {
            Check.throwsIndex(name + " of no kind", () -> question.of(ledger, kind, 0));
        }
    }

    private static void promise16ProjectsOfLater() {
        AllotmentLedger ledger = new AllotmentLedger();
        for (int project = 1; project <= 20; project++) {
            int number = project;
            Check.throwsIndex("16: not yet made", () -> Ledgers.limits(ledger, PROJECT, number, 0, 0, 0));
            Check.throwsIndex("18: not yet made", () -> ledger.used(PROJECT, number));
            Ledgers.path(ledger, Character.toString((char) ('a' + project)));
            ledger.makeProject();
            Check.due("16: made", 0, Ledgers.limits(ledger, PROJECT, project, 0, 0, 0));
            Check.due("18: made", 0, ledger.used(PROJECT, project));
        }
    }

    // "hours: 1 to 1000"
    private static void promise17OneAndThousandHours() {
        AllotmentLedger ledger = new AllotmentLedger();
        Check.throwsArgument("17: 0 hours", () -> ledger.pass(0));
        Check.due("17: 1 hour", 1, ledger.pass(1));
        Check.throwsArgument("17: 1001 hours", () -> ledger.pass(1001));
        Check.due("17: 1000 hours", 1001, ledger.pass(1000));
        Check.throwsArgument("17: -1 hours", () -> ledger.pass(-1));
        Check.due("17: the clock", 1002, ledger.pass(1));
    }

    // "Throws IllegalStateException if the clock would be above 100000"
    private static void promise17LastHour() {
        AllotmentLedger ledger = new AllotmentLedger();
        Ledgers.pass(ledger, 99999);
        Check.throwsState("17: to 100001", () -> ledger.pass(2));
        Check.throwsArgument("17: to 101000", () -> ledger.pass(1001));
        Check.due("17: to 100000", 100000, ledger.pass(1));
        Check.throwsState("17: beyond it", () -> ledger.pass(1));
        Check.throwsState("17: far beyond it", () -> ledger.pass(1000));
        Check.throwsArgument("17: 0 hours there", () -> ledger.pass(0));
        Check.throwsArgument("17: 1001 hours there", () -> ledger.pass(1001));
        AllotmentLedger whole = new AllotmentLedger();
        Ledgers.pass(whole, 99000);
        Check.due("17: 1000 hours to 100000", 100000, whole.pass(1000));
    }

    private static void promise17GraceAtTheLastHour() {
        AllotmentLedger ledger = withFile();
        Ledgers.pass(ledger, 99952);
        ledger.setLimits(USER, 0, 0, NONE, NONE);
        ledger.write(0, 1);
        ledger.pass(47);
        Check.due("21: an hour ahead of the last one", 1, ledger.grace(USER, 0));
        ledger.pass(1);
        Check.due("21: at the last one", 0, ledger.grace(USER, 0));
        Check.throwsState("17: no hour more", () -> ledger.pass(1));
        Check.due("11: the other calls go on", -2, ledger.write(0, 1));
    }

    private static void promise18FirstAndLastAccount() {
        dueBounds("18: used", 0, Ledgers.withProjects("a", "b"), (asked, kind, number) -> asked.used(kind, number));
    }

    private static void promise19FirstAndLastAccount() {
        dueBounds("19: filesOf", 0, Ledgers.withProjects("a", "b"),
                (asked, kind, number) -> asked.filesOf(kind, number));
    }

    private static void promise20FirstAndLastAccount() {
        dueBounds("20: usedByFiles", 0, Ledgers.withProjects("a", "b"),
                (asked, kind, number) -> asked.usedByFiles(kind, number));
    }

    private static void promise21FirstAndLastAccount() {
        dueBounds("21: grace", NONE, Ledgers.withProjects("a", "b"),
                (asked, kind, number) -> asked.grace(kind, number));
    }

    private static void promise18To20WithoutFiles() {
        AllotmentLedger ledger = withFile();
        ledger.write(0, 5);
        ledger.reserve(0, 5);
        ledger.delete(0);
        for (int[] account : new int[][] {{USER, 0}, {GROUP, 0}, {PROJECT, 0}}) {
            Check.due("18: all are deleted", 0, ledger.used(account[0], account[1]));
            Check.due("19: all are deleted", 0, ledger.filesOf(account[0], account[1]));
            Check.due("20: all are deleted", 0, ledger.usedByFiles(account[0], account[1]));
        }
    }

    // "Returns the same as used(), counted anew from all files and reservations."
    private static void promise20SameAsUsed() {
        AllotmentLedger ledger = Ledgers.withProjects("a", "ab", "b");
        for (int file = 0; file < 40; file++) {
            ledger.makeFile(file % 6, file % 4);
            ledger.write(file, file);
        }
        for (int i = 0; i < 30; i++) {
            ledger.reserve(39 - i, 100);
        }
        ledger.settle(0, 50);
        ledger.settle(29, 0);
        ledger.delete(38);
        Ledgers.path(ledger, "b");
        ledger.moveProject(2);
        Check.due("18: of the root", 780 + 3000 - 50 - 100 - 138, ledger.used(PROJECT, 0));
        int[] numbers = {6, 3, 4};
        for (int kind = 0; kind < 3; kind++) {
            for (int number = 0; number < numbers[kind]; number++) {
                Check.due("20: of " + kind + " " + number, ledger.used(kind, number), ledger.usedByFiles(kind, number));
            }
        }
    }

    // "Returns 0 to 48 hours, 0 if it is gone"
    private static void promise21EachHour() {
        AllotmentLedger ledger = withFile();
        ledger.pass(12);
        ledger.setLimits(PROJECT, 0, 5, NONE, NONE);
        ledger.write(0, 6);
        for (int passed = 0; passed <= 60; passed++) {
            Check.due("21: behind " + passed + " hours", passed < 48 ? 48 - passed : 0, ledger.grace(PROJECT, 0));
            ledger.pass(1);
        }
        ledger.pass(1000);
        Check.due("21: long gone", 0, ledger.grace(PROJECT, 0));
    }

    // "NONE if the account is not over"
    private static void promise21NotOver() {
        AllotmentLedger ledger = withFile();
        ledger.pass(100);
        Check.due("21: no soft limit", NONE, ledger.grace(USER, 0));
        ledger.setLimits(USER, 0, 5, NONE, NONE);
        Check.due("21: below it", NONE, ledger.grace(USER, 0));
        ledger.write(0, 5);
        ledger.pass(100);
        Check.due("21: at it", NONE, ledger.grace(USER, 0));
        ledger.write(0, 1);
        ledger.pass(48);
        Check.due("21: gone", 0, ledger.grace(USER, 0));
        ledger.write(0, -1);
        Check.due("21: at it again", NONE, ledger.grace(USER, 0));
        Check.due("11: and it bars no more", 6, ledger.write(0, 1));
    }

    // "how many blocks more, at the most, a file could use now without an account barring it"
    private static void promise22UpToTheHardLimit() {
        AllotmentLedger ledger = withFile();
        ledger.makeFile(0, 0);
        ledger.write(1, 20);
        ledger.reserve(1, 30);
        ledger.setLimits(USER, 0, NONE, 100, NONE);
        Check.due("22: room", 50, ledger.room(0));
        Check.due("22: room of the other", 50, ledger.room(1));
        Check.due("11: one more is barred", -2, ledger.write(0, 51));
        Check.due("11: as many are not", 50, ledger.write(0, 50));
        Check.due("22: no room", 0, ledger.room(0));
        ledger.settle(0, 10);
        Check.due("22: those that were given up", 20, ledger.room(1));
        Check.due("14: one more is barred", -2, ledger.reserve(1, 21));
        Check.due("14: as many are not", 1, ledger.reserve(1, 20));
    }

    // "0 if some account bars one more"
    private static void promise22OneMoreIsBarred() {
        AllotmentLedger ledger = withFile();
        ledger.write(0, 10);
        ledger.setLimits(USER, 0, NONE, 11, NONE);
        Check.due("22: one below the limit", 1, ledger.room(0));
        ledger.setLimits(USER, 0, NONE, 10, NONE);
        Check.due("22: at the limit", 0, ledger.room(0));
        ledger.setLimits(USER, 0, NONE, 9, NONE);
        Check.due("22: beyond the limit", 0, ledger.room(0));
        ledger.setLimits(USER, 0, NONE, 0, NONE);
        Check.due("22: far beyond the limit", 0, ledger.room(0));
        ledger.setLimits(USER, 0, 9, 50, NONE);
        ledger.pass(47);
        Check.due("22: an hour of grace", 40, ledger.room(0));
        ledger.pass(1);
        Check.due("22: grace gone", 0, ledger.room(0));
    }

    // "(write() and reserve() take no more than 1000 at a time)"
    private static void promise22MoreThanThousand() {
        AllotmentLedger ledger = withFile();
        for (int hard : new int[] {999, 1000, 1001, 50000, 100000}) {
            ledger.setLimits(GROUP, 0, NONE, hard, NONE);
            Check.due("22: room", hard, ledger.room(0));
        }
    }

    // "NONE if no account bars any number"
    private static void promise22NoneWithoutHardLimits() {
        AllotmentLedger ledger = Ledgers.withProjects("a");
        ledger.makeFile(0, 1);
        int[][] accounts = {{USER, 0}, {GROUP, 0}, {PROJECT, 1}, {PROJECT, 0}};
        for (int[] account : accounts) {
            ledger.setLimits(account[0], account[1], 100, NONE, 0);
        }
        ledger.write(0, 101);
        Check.due("22: over, with grace", NONE, ledger.room(0));
        for (int[] account : accounts) {
            ledger.setLimits(account[0], account[1], NONE, 200, NONE);
            Check.due("22: one has a hard limit", 99, ledger.room(0));
            ledger.setLimits(account[0], account[1], NONE, NONE, NONE);
        }
        Check.due("22: none has one", NONE, ledger.room(0));
    }

    private static void promise22LeastOfAll() {
        int[][] accounts = {{USER, 5}, {GROUP, 2}, {PROJECT, 2}, {PROJECT, 1}, {PROJECT, 0}};
        for (int least = 0; least < accounts.length; least++) {
            AllotmentLedger ledger = Ledgers.withProjects("a", "ab", "x");
            ledger.makeFile(5, 2);
            ledger.makeFile(2, 3);
            ledger.write(1, 100);
            for (int place = 0; place < accounts.length; place++) {
                int[] account = accounts[place];
                int others = ledger.used(account[0], account[1]);
                ledger.setLimits(account[0], account[1], NONE, others + (place == least ? 7 : 8 + place), NONE);
            }
            Check.due("22: least at place " + least, 7, ledger.room(0));
            Check.due("11: it bars one more", -2 - least, ledger.write(0, 8));
            Check.due("11: and not as many", 7, ledger.write(0, 7));
        }
    }

    // "Throws IndexOutOfBoundsException if there is no such file, or it is deleted"
    private static void promise22LastFile() {
        Check.throwsIndex("22: no file in a new one", () -> new AllotmentLedger().room(0));
        AllotmentLedger ledger = new AllotmentLedger();
        for (int file = 0; file < 40; file++) {
            ledger.makeFile(0, 0);
        }
        ledger.delete(17);
        Check.due("22: file 0", NONE, ledger.room(0));
        Check.due("22: file 39", NONE, ledger.room(39));
        Check.throwsIndex("22: no file 40", () -> ledger.room(40));
        Check.throwsIndex("22: no file -1", () -> ledger.room(-1));
        Check.throwsIndex("22: a deleted one", () -> ledger.room(17));
    }
}
