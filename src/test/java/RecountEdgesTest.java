/** Promises 23 to 25, each sentence that names a bound: just inside it, at it, the empty and the full state. */
public final class RecountEdgesTest {
    private static final int USER = AllotmentLedger.USER;
    private static final int GROUP = AllotmentLedger.GROUP;
    private static final int PROJECT = AllotmentLedger.PROJECT;

    public static void main(String[] args) {
        promise23NoFiles();
        promise23FortyFiles();
        promise23DeletedOnes();
        promise23AlsoIfOneGoesOn();
        promise24OneAndFortyFiles();
        promise24FewerAreLeft();
        promise24ByRisingNumbers();
        promise24NoneIsLeft();
        promise24MadeSinceAllWereTaken();
        promise24NotBegun();
        promise24AsItIsThen();
        promise25NotBegun();
        promise25FirstAndLastAccount();
        promise25AllAccountsOfAFile();
        promise25WriteOfTaken();
        promise25ReserveAndSettleOfTaken();
        promise25DeleteOfTaken();
        promise25MoveFileOfTaken();
        promise25MoveProjectOfTaken();
        promise25ChangesOfThoseBehind();
        promise25BarredAndLimits();
        promise25DeletedOnesBehind();
        promise25ProjectsMadeLater();
        Check.end();
    }

    private static AllotmentLedger withTaken(int files) {
        AllotmentLedger ledger = Ledgers.withFourFiles();
        ledger.beginRecount();
        ledger.recount(files);
        return ledger;
    }

    private static AllotmentLedger withFortyFiles() {
        AllotmentLedger ledger = new AllotmentLedger();
        for (int file = 0; file < 40; file++) {
            ledger.makeFile(file % 6, 0);
            ledger.write(file, 1 + file);
        }
        return ledger;
    }

    /** The counts of the root, a, ab, b, and so on. */
    private static void dueProjects(String what, AllotmentLedger ledger, int... counts) {
        for (int project = 0; project < counts.length; project++) {
            Check.due(what + ", project " + project, counts[project], ledger.counted(PROJECT, project));
        }
    }

    private static void dueOwners(String what, AllotmentLedger ledger, int... counts) {
        int[] groups = new int[3];
        for (int user = 0; user < counts.length; user++) {
            Check.due(what + ", user " + user, counts[user], ledger.counted(USER, user));
            groups[user % 3] += counts[user];
        }
        for (int group = 0; group < 3; group++) {
            Check.due(what + ", group " + group, groups[group], ledger.counted(GROUP, group));
        }
    }

    // "Returns how many files there are to be taken"
    private static void promise23NoFiles() {
        AllotmentLedger ledger = new AllotmentLedger();
        Check.due("23: no files", 0, ledger.beginRecount());
        Check.due("24: none is left", 0, ledger.recount(1));
        Check.due("24: of forty none is left", 0, ledger.recount(40));
        Check.due("25: nothing is counted", 0, ledger.counted(PROJECT, 0));
    }

    private static void promise23FortyFiles() {
        AllotmentLedger ledger = withFortyFiles();
        Check.due("23: forty files", 40, ledger.beginRecount());
        Check.due("25: none is counted", 0, ledger.counted(PROJECT, 0));
        Check.due("24: all of forty", 0, ledger.recount(40));
        Check.due("25: all are counted", 820, ledger.counted(PROJECT, 0));
    }

    // "deleted ones counted"
    private static void promise23DeletedOnes() {
        AllotmentLedger ledger = Ledgers.withFourFiles();
        ledger.delete(0);
        ledger.delete(3);
        Check.due("23: two of four are deleted", 4, ledger.beginRecount());
        Check.due("24: a deleted one is taken", 3, ledger.recount(1));
        dueProjects("25: it has no blocks", ledger, 0, 0, 0, 0);
        Check.due("24: two more", 1, ledger.recount(2));
        Check.due("24: the last one is a deleted one", 0, ledger.recount(1));
        dueProjects("25: all are taken", ledger, 110, 10, 10, 100);
        AllotmentLedger all = withFortyFiles();
        for (int file = 0; file < 40; file++) {
            all.delete(file);
        }
        Check.due("23: all of forty are deleted", 40, all.beginRecount());
        Check.due("24: all of forty are deleted", 1, all.recount(39));
        Check.due("24: the last of them", 0, all.recount(1));
        Check.due("25: all of forty are deleted", 0, all.counted(PROJECT, 0));
    }

    // "Begins a recount, also if one goes on."
    private static void promise23AlsoIfOneGoesOn() {
        AllotmentLedger ledger = withTaken(2);
        dueProjects("25: two are taken", ledger, 11, 11, 10, 0);
        Check.due("23: begun anew", 4, ledger.beginRecount());
        dueProjects("25: counts of 0", ledger, 0, 0, 0, 0);
        dueOwners("25: counts of 0", ledger, 0, 0, 0, 0, 0, 0);
        Check.due("23: begun anew at once", 4, ledger.beginRecount());
        ledger.write(0, 5);
        dueProjects("25: file 0 is not taken now", ledger, 0, 0, 0, 0);
        Check.due("24: the first one again", 3, ledger.recount(1));
        dueProjects("25: file 0 is taken", ledger, 6, 6, 0, 0);
        Check.due("24: all", 0, ledger.recount(3));
        Check.due("23: begun when all were taken", 4, ledger.beginRecount());
        dueOwners("25: counts of 0", ledger, 0, 0, 0, 0, 0, 0);
        dueProjects("25: counts of 0", ledger, 0, 0, 0, 0);
    }

    // "files: 1 to 40"
    private static void promise24OneAndFortyFiles() {
        AllotmentLedger ledger = withFortyFiles();
        ledger.beginRecount();
        Check.throwsArgument("24: 0 files", () -> ledger.recount(0));
        Check.due("24: 1 file", 39, ledger.recount(1));
        Check.throwsArgument("24: 41 files", () -> ledger.recount(41));
        Check.due("25: one is counted", 1, ledger.counted(PROJECT, 0));
        Check.due("24: 38 files", 1, ledger.recount(38));
        Check.due("25: the last one is not counted", 780, ledger.counted(PROJECT, 0));
        Check.due("24: 40 files, one is left", 0, ledger.recount(40));
        Check.due("25: the last one is counted", 820, ledger.counted(PROJECT, 0));
        Check.throwsArgument("24: -1 files", () -> ledger.recount(-1));
    }

    // "or all that are left if there are fewer"
    private static void promise24FewerAreLeft() {
        AllotmentLedger ledger = Ledgers.withFourFiles();
        ledger.beginRecount();
        Check.due("24: three of four", 1, ledger.recount(3));
        Check.due("24: two of one", 0, ledger.recount(2));
        dueProjects("25: all are taken", ledger, 1111, 11, 10, 100);
        ledger.beginRecount();
        Check.due("24: four of four", 0, ledger.recount(4));
        ledger.beginRecount();
        Check.due("24: five of four", 0, ledger.recount(5));
        dueProjects("25: all are taken once", ledger, 1111, 11, 10, 100);
    }

    // "takes the files one after the other by rising numbers"
    private static void promise24ByRisingNumbers() {
        AllotmentLedger ledger = Ledgers.withFourFiles();
        ledger.beginRecount();
        int[][] counts = {{1, 1, 0, 0}, {11, 11, 10, 0}, {111, 11, 10, 100}, {1111, 11, 10, 100}};
        for (int file = 0; file < 4; file++) {
            Check.due("24: left", 3 - file, ledger.recount(1));
            dueProjects("25: taken to " + file, ledger, counts[file]);
        }
        dueOwners("25: all are taken", ledger, 1, 10, 100, 1000, 0, 0);
    }

    private static void promise24NoneIsLeft() {
        AllotmentLedger ledger = withTaken(40);
        for (int call = 0; call < 3; call++) {
            Check.due("24: none is left", 0, ledger.recount(40));
            dueProjects("25: none is counted twice", ledger, 1111, 11, 10, 100);
        }
    }

    // "files that were made since all were taken can be taken by a further call"
    private static void promise24MadeSinceAllWereTaken() {
        AllotmentLedger ledger = withTaken(4);
        ledger.makeFile(4, 3);
        ledger.write(4, 7);
        ledger.makeFile(5, 2);
        ledger.reserve(5, 50);
        dueProjects("25: not taken yet", ledger, 1111, 11, 10, 100);
        Check.due("24: the first of two", 1, ledger.recount(1));
        dueProjects("25: one is taken", ledger, 1118, 11, 10, 107);
        Check.due("24: the second of two", 0, ledger.recount(40));
        dueProjects("25: both are taken", ledger, 1168, 61, 60, 107);
        dueOwners("25: both are taken", ledger, 1, 10, 100, 1000, 7, 50);
        AllotmentLedger empty = new AllotmentLedger();
        empty.beginRecount();
        empty.makeFile(0, 0);
        empty.write(0, 3);
        Check.due("25: begun ahead of the first file", 0, empty.counted(USER, 0));
        Check.due("24: the first file", 0, empty.recount(1));
        Check.due("25: the first file", 3, empty.counted(USER, 0));
    }

    // "Throws IllegalStateException if no recount was begun"
    private static void promise24NotBegun() {
        AllotmentLedger ledger = Ledgers.withFourFiles();
        Check.throwsState("24: not begun", () -> ledger.recount(1));
        Check.throwsState("24: not begun, 40 files", () -> ledger.recount(40));
        Check.throwsArgument("24: not begun, 0 files", () -> ledger.recount(0));
        Check.throwsArgument("24: not begun, 41 files", () -> ledger.recount(41));
        Check.throwsState("24: not begun, without files", () -> new AllotmentLedger().recount(1));
        ledger.beginRecount();
        Check.due("24: begun", 3, ledger.recount(1));
    }

    // "a file that is taken is added to the counts of its accounts as it is then"
    private static void promise24AsItIsThen() {
        AllotmentLedger ledger = withTaken(1);
        ledger.write(1, 5);
        ledger.reserve(1, 30);
        ledger.reserve(1, 40);
        ledger.settle(0, 2);
        ledger.moveFile(1, 3);
        dueProjects("25: ahead of it", ledger, 1, 1, 0, 0);
        ledger.recount(1);
        dueProjects("25: with what is reserved, where it is", ledger, 58, 1, 0, 57);
        Check.due("25: of its owner", 57, ledger.counted(USER, 1));
    }

    // "Throws IllegalStateException if no recount was begun"
    private static void promise25NotBegun() {
        AllotmentLedger ledger = Ledgers.withFourFiles();
        Check.throwsState("25: not begun", () -> ledger.counted(USER, 0));
        Check.throwsState("25: not begun, of the last group", () -> ledger.counted(GROUP, 2));
        Check.throwsState("25: not begun, of the last project", () -> ledger.counted(PROJECT, 3));
        Check.throwsIndex("25: not begun, of no project", () -> ledger.counted(PROJECT, 4));
        Check.throwsIndex("25: not begun, of no kind", () -> ledger.counted(-1, 0));
        ledger.beginRecount();
        Check.due("25: begun", 0, ledger.counted(USER, 0));
    }

    // "Throws IndexOutOfBoundsException if there is no such kind or account"
    private static void promise25FirstAndLastAccount() {
        AllotmentLedger ledger = withTaken(4);
        int[][] counts = {{USER, 0, 1}, {USER, 5, 0}, {GROUP, 0, 1001}, {GROUP, 2, 100}, {PROJECT, 0, 1111},
            {PROJECT, 3, 100}};
        for (int[] a : counts) {
            Check.due("25: counted", a[2], ledger.counted(a[0], a[1]));
        }
        int[][] none = {{USER, -1}, {USER, 6}, {GROUP, -1}, {GROUP, 3}, {PROJECT, -1}, {PROJECT, 4}, {-1, 0}, {3, 0}};
        for (int[] a : none) {
            Check.throwsIndex("25: no account", () -> ledger.counted(a[0], a[1]));
        }
    }

    private static void promise25AllAccountsOfAFile() {
        AllotmentLedger ledger = Ledgers.withProjects(
                "a", "ab", "abc", "abcd", "abcde", "abcdef", "abcdefg", "abcdefgh", "x");
        ledger.makeFile(4, 8);
        ledger.write(0, 6);
        ledger.beginRecount();
        ledger.recount(1);
        dueProjects("25: a file of nine projects", ledger, 6, 6, 6, 6, 6, 6, 6, 6, 6, 0);
        dueOwners("25: a file of nine projects", ledger, 0, 0, 0, 0, 6, 0);
    }

    // "A call that changes the usage of files that were taken already ... changes the counts likewise"
    private static void promise25WriteOfTaken() {
        AllotmentLedger ledger = withTaken(2);
        ledger.write(1, 7);
        dueProjects("25: written", ledger, 18, 18, 17, 0);
        dueOwners("25: written", ledger, 1, 17, 0, 0, 0, 0);
        ledger.write(1, -17);
        dueProjects("25: taken away", ledger, 1, 1, 0, 0);
        ledger.write(2, 7);
        dueProjects("25: the next one is not taken", ledger, 1, 1, 0, 0);
    }

    private static void promise25ReserveAndSettleOfTaken() {
        AllotmentLedger ledger = withTaken(2);
        ledger.reserve(1, 30);
        ledger.reserve(2, 500);
        dueProjects("25: reserved", ledger, 41, 41, 40, 0);
        ledger.settle(0, 30);
        dueProjects("25: settled, all written", ledger, 41, 41, 40, 0);
        ledger.reserve(1, 8);
        ledger.settle(2, 0);
        dueProjects("25: settled, all given up", ledger, 41, 41, 40, 0);
        ledger.reserve(1, 8);
        ledger.settle(3, 3);
        dueProjects("25: settled, some given up", ledger, 44, 44, 43, 0);
        dueOwners("25: settled", ledger, 1, 43, 0, 0, 0, 0);
    }

    private static void promise25DeleteOfTaken() {
        AllotmentLedger ledger = withTaken(2);
        ledger.reserve(1, 30);
        ledger.delete(1);
        dueProjects("25: deleted with its reservation", ledger, 1, 1, 0, 0);
        dueOwners("25: deleted", ledger, 1, 0, 0, 0, 0, 0);
        Check.due("24: it is not taken again", 1, ledger.recount(1));
        dueProjects("25: the next one", ledger, 101, 1, 0, 100);
    }

    private static void promise25MoveFileOfTaken() {
        AllotmentLedger ledger = withTaken(2);
        ledger.reserve(1, 30);
        ledger.moveFile(1, 3);
        dueProjects("25: moved", ledger, 41, 1, 0, 40);
        dueOwners("25: moved", ledger, 1, 40, 0, 0, 0, 0);
        ledger.moveFile(1, 3);
        dueProjects("25: moved to where it is", ledger, 41, 1, 0, 40);
        ledger.moveFile(2, 1);
        dueProjects("25: one behind is moved", ledger, 41, 1, 0, 40);
        ledger.recount(1);
        dueProjects("25: and taken", ledger, 141, 101, 0, 40);
    }

    private static void promise25MoveProjectOfTaken() {
        AllotmentLedger ledger = Ledgers.withFourFiles();
        ledger.makeFile(4, 2);
        ledger.write(4, 5);
        ledger.beginRecount();
        ledger.recount(2);
        Ledgers.path(ledger, "b");
        ledger.moveProject(2);
        dueProjects("25: one of its two files is taken", ledger, 11, 1, 10, 10);
        ledger.recount(40);
        dueProjects("25: both are taken", ledger, 1116, 1, 15, 115);
        ledger.delete(4);
        Ledgers.path(ledger, "a");
        ledger.moveProject(3);
        dueProjects("25: moved with all within it", ledger, 1111, 111, 10, 110);
        ledger.moveProject(3);
        dueProjects("25: moved to where it is", ledger, 1111, 111, 10, 110);
    }

    // "files that come behind, or are made later, are added when they are taken"
    private static void promise25ChangesOfThoseBehind() {
        AllotmentLedger ledger = withTaken(2);
        ledger.write(2, 9);
        ledger.reserve(2, 9);
        ledger.moveFile(3, 1);
        ledger.settle(0, 1);
        ledger.moveFile(2, 0);
        Ledgers.path(ledger, "ab");
        ledger.moveProject(3);
        ledger.moveFile(2, 3);
        ledger.makeFile(0, 1);
        ledger.write(4, 3);
        dueProjects("25: none of them is taken", ledger, 11, 11, 10, 0);
        dueOwners("25: none of them is taken", ledger, 1, 10, 0, 0, 0, 0);
        Check.due("24: three are left", 0, ledger.recount(3));
        dueProjects("25: all are taken", ledger, 1124, 1124, 120, 110);
        dueOwners("25: all are taken", ledger, 4, 10, 110, 1000, 0, 0);
    }

    private static void promise25BarredAndLimits() {
        AllotmentLedger ledger = withTaken(4);
        ledger.setLimits(USER, 0, 0, 0, 0);
        ledger.write(0, 1);
        ledger.reserve(0, 1);
        ledger.makeFile(0, 1);
        ledger.pass(100);
        dueProjects("25: limits, time and barred calls change none", ledger, 1111, 11, 10, 100);
        Check.due("24: none was made", 0, ledger.recount(1));
    }

    private static void promise25DeletedOnesBehind() {
        AllotmentLedger ledger = withTaken(1);
        ledger.reserve(1, 5);
        ledger.delete(1);
        ledger.delete(3);
        dueProjects("25: they were not taken", ledger, 1, 1, 0, 0);
        Check.due("24: they are left to be taken", 0, ledger.recount(3));
        dueProjects("25: but have no blocks", ledger, 101, 1, 0, 100);
    }

    private static void promise25ProjectsMadeLater() {
        AllotmentLedger ledger = withTaken(4);
        Check.throwsIndex("25: no project 4", () -> ledger.counted(PROJECT, 4));
        Ledgers.path(ledger, "by");
        ledger.makeProject();
        dueProjects("25: made later", ledger, 1111, 11, 10, 100, 0);
        ledger.moveFile(0, 4);
        dueProjects("25: a taken file moved into it", ledger, 1111, 10, 10, 101, 1);
    }
}
