/** Promises 10 to 15, each sentence that names a bound: just inside it, at it, the empty and the full state. */
public final class FileEdgesTest {
    private static final int USER = AllotmentLedger.USER;
    private static final int GROUP = AllotmentLedger.GROUP;
    private static final int PROJECT = AllotmentLedger.PROJECT;
    private static final int NONE = AllotmentLedger.NONE;

    public static void main(String[] args) {
        promise10FirstAndLastUser();
        promise10FirstAndLastProject();
        promise10FortyFiles();
        promise10DeletedOnesAmongForty();
        promise10LimitsOfFiles();
        promise10DeletedOnesAgainstLimits();
        promise10PlaceOfTheRoot();
        promise11ThousandBlocks();
        promise11DownToNothing();
        promise11ReservedOnesAreNotItsOwn();
        promise11WholeFileAboveThousand();
        promise11BarredChangesNothing();
        promise11LastFile();
        promise12EmptyFile();
        promise12ReservedBlocks();
        promise12SettledBlocks();
        promise12ReservationsAreGivenUp();
        promise12BeyondAllLimits();
        promise12LastFile();
        promise13NothingIsBarred();
        promise13SameProject();
        promise13UpAndDown();
        promise13LastFileAndProject();
        promise13ReservationsMoveToo();
        promise14OneAndThousandBlocks();
        promise14ThirtyReservations();
        promise14ClosedOnesAmongThirty();
        promise14BarredTakesNoNumber();
        promise14LastFile();
        promise15NoneAndAll();
        promise15BlocksOfTheFile();
        promise15NothingIsBarred();
        promise15OpenOnesAlone();
        promise15BehindAMove();
        Check.end();
    }

    private static AllotmentLedger withFile() {
        AllotmentLedger ledger = new AllotmentLedger();
        ledger.makeFile(0, 0);
        return ledger;
    }

    // "user: 0 to 5: its owner"
    private static void promise10FirstAndLastUser() {
        AllotmentLedger ledger = new AllotmentLedger();
        Check.throwsIndex("10: user -1", () -> ledger.makeFile(-1, 0));
        Check.throwsIndex("10: user 6", () -> ledger.makeFile(6, 0));
        Check.due("10: user 0", 0, ledger.makeFile(0, 0));
        Check.due("10: user 5", 1, ledger.makeFile(5, 0));
        Check.due("19: of user 0", 1, ledger.filesOf(USER, 0));
        Check.due("19: of user 5", 1, ledger.filesOf(USER, 5));
    }

    // "project: the number of its project"
    private static void promise10FirstAndLastProject() {
        AllotmentLedger ledger = new AllotmentLedger();
        Check.throwsIndex("10: no project 1", () -> ledger.makeFile(0, 1));
        Check.throwsIndex("10: no project -1", () -> ledger.makeFile(0, -1));
        ledger.type('a');
        ledger.makeProject();
        Check.due("10: project 1", 0, ledger.makeFile(0, 1));
        Check.throwsIndex("10: no project 2", () -> ledger.makeFile(0, 2));
        Check.due("10: the root", 1, ledger.makeFile(0, 0));
    }

    // "Throws IllegalStateException if there are 40 files"
    private static void promise10FortyFiles() {
        AllotmentLedger ledger = new AllotmentLedger();
        for (int file = 0; file < 39; file++) {
            ledger.makeFile(file % 6, 0);
        }
        Check.due("10: the fortieth", 39, ledger.makeFile(3, 0));
        Check.throwsState("10: the forty-first", () -> ledger.makeFile(3, 0));
        Check.due("19: forty", 40, ledger.filesOf(PROJECT, 0));
        Check.due("11: the fortieth is there", 1, ledger.write(39, 1));
        Check.throwsIndex("11: the forty-first is not", () -> ledger.write(40, 1));
        ledger.setLimits(USER, 3, NONE, NONE, 1);
        Check.throwsState("10: the forty-first, barred too", () -> ledger.makeFile(3, 0));
        Check.throwsIndex("10: the forty-first of user 6", () -> ledger.makeFile(6, 0));
        Check.throwsIndex("10: the forty-first in project 1", () -> ledger.makeFile(3, 1));
    }

    // "deleted ones counted"
    private static void promise10DeletedOnesAmongForty() {
        AllotmentLedger ledger = new AllotmentLedger();
        for (int file = 0; file < 40; file++) {
            ledger.makeFile(0, 0);
            ledger.delete(file);
        }
        Check.due("19: all are deleted", 0, ledger.filesOf(USER, 0));
        Check.throwsState("10: but counted", () -> ledger.makeFile(0, 0));
        AllotmentLedger barred = withFile();
        barred.setLimits(USER, 0, NONE, NONE, 1);
        for (int call = 0; call < 50; call++) {
            Check.due("10: barred", -2, barred.makeFile(0, 0));
        }
        Check.due("10: barred ones are not counted", 1, barred.makeFile(1, 0));
    }

    // "or, if an account bars it": the hard limit of files, from 0 to 100.
    private static void promise10LimitsOfFiles() {
        AllotmentLedger ledger = new AllotmentLedger();
        ledger.setLimits(GROUP, 1, NONE, NONE, 0);
        Check.due("10: none at the limit 0", -3, ledger.makeFile(1, 0));
        ledger.setLimits(GROUP, 1, NONE, NONE, 2);
        Check.due("10: first of two", 0, ledger.makeFile(1, 0));
        Check.due("10: second of two, of another user", 1, ledger.makeFile(4, 0));
        Check.due("10: third of two", -3, ledger.makeFile(1, 0));
        Check.due("19: two", 2, ledger.filesOf(GROUP, 1));
        ledger.setLimits(GROUP, 1, NONE, NONE, 100);
        for (int file = 2; file < 40; file++) {
            Check.due("10: below the limit 100", file, ledger.makeFile(1, 0));
        }
    }

    private static void promise10DeletedOnesAgainstLimits() {
        AllotmentLedger ledger = new AllotmentLedger();
        ledger.setLimits(USER, 0, NONE, NONE, 1);
        Check.due("10: one", 0, ledger.makeFile(0, 0));
        Check.due("10: barred", -2, ledger.makeFile(0, 0));
        ledger.delete(0);
        Check.due("10: a deleted one is not of its account", 1, ledger.makeFile(0, 0));
        Check.due("10: barred again", -2, ledger.makeFile(0, 0));
    }

    // "0 owner, 1 group, 2 the project of the file, 3 its parent, and so on"
    private static void promise10PlaceOfTheRoot() {
        String[] paths = {"a", "ab", "abc", "abcd", "abcde", "abcdef", "abcdefg", "abcdefgh"};
        AllotmentLedger ledger = Ledgers.withProjects(paths);
        ledger.makeFile(0, 8);
        ledger.setLimits(PROJECT, 0, NONE, 0, 1);
        for (int project = 0; project <= paths.length; project++) {
            Check.due("10: place of the root", -4 - project, ledger.makeFile(0, project));
        }
        Check.due("11: place of the root", -12, ledger.write(0, 1));
        Check.due("14: place of the root", -12, ledger.reserve(0, 1));
        ledger.moveFile(0, 0);
        Check.due("11: place of the root as the project of the file", -4, ledger.write(0, 1));
    }

    // "blocks: -1000 to 1000"
    private static void promise11ThousandBlocks() {
        AllotmentLedger ledger = withFile();
        Check.throwsArgument("11: 1001", () -> ledger.write(0, 1001));
        Check.due("11: 1000", 1000, ledger.write(0, 1000));
        Check.due("11: 1000 more", 2000, ledger.write(0, 1000));
        Check.throwsArgument("11: -1001", () -> ledger.write(0, -1001));
        Check.due("11: -1000", 1000, ledger.write(0, -1000));
        Check.due("11: 0", 1000, ledger.write(0, 0));
        Check.due("18: used", 1000, ledger.used(USER, 0));
    }

    // "or the file would have fewer than 0"
    private static void promise11DownToNothing() {
        AllotmentLedger ledger = withFile();
        Check.throwsArgument("11: -1 of none", () -> ledger.write(0, -1));
        Check.due("11: 0 of none", 0, ledger.write(0, 0));
        ledger.write(0, 7);
        Check.throwsArgument("11: -8 of 7", () -> ledger.write(0, -8));
        Check.due("11: -7 of 7", 0, ledger.write(0, -7));
        Check.throwsArgument("11: -1 of none again", () -> ledger.write(0, -1));
        ledger.write(0, 999);
        Check.throwsArgument("11: -1000 of 999", () -> ledger.write(0, -1000));
        Check.due("18: used", 999, ledger.used(PROJECT, 0));
    }

    private static void promise11ReservedOnesAreNotItsOwn() {
        AllotmentLedger ledger = withFile();
        ledger.reserve(0, 50);
        Check.throwsArgument("11: -1 of none but reserved ones", () -> ledger.write(0, -1));
        ledger.settle(0, 50);
        Check.due("11: they are its own then", 0, ledger.write(0, -50));
    }

    private static void promise11WholeFileAboveThousand() {
        AllotmentLedger ledger = withFile();
        for (int call = 1; call <= 300; call++) {
            Check.due("11: written", 1000 * call, ledger.write(0, 1000));
        }
        Check.due("18: used", 300000, ledger.used(GROUP, 0));
        Check.due("20: used", 300000, ledger.usedByFiles(PROJECT, 0));
        ledger.setLimits(USER, 0, 100000, 100000, NONE);
        Check.due("11: beyond the highest limit", -2, ledger.write(0, 1));
        Check.due("12: deleted", 300000, ledger.delete(0));
    }

    // "if an account bars it, -2 less the place of the barring account, and nothing is changed"
    private static void promise11BarredChangesNothing() {
        AllotmentLedger ledger = withFile();
        ledger.write(0, 4);
        ledger.setLimits(USER, 0, 4, 5, NONE);
        Check.due("11: two more", -2, ledger.write(0, 2));
        Check.due("11: nothing is written", 4, ledger.write(0, 0));
        Check.due("18: nothing is used", 4, ledger.used(USER, 0));
        Check.due("18: nor in the root", 4, ledger.used(PROJECT, 0));
        Check.due("21: it is not over", NONE, ledger.grace(USER, 0));
        Check.due("22: there is room for one", 1, ledger.room(0));
    }

    private static void promise11LastFile() {
        AllotmentLedger ledger = withFile();
        Check.throwsIndex("11: no file 1", () -> ledger.write(1, 0));
        Check.throwsIndex("11: no file -1", () -> ledger.write(-1, 0));
        ledger.makeFile(0, 0);
        Check.due("11: file 1", 3, ledger.write(1, 3));
        ledger.delete(1);
        Check.throwsIndex("11: file 1 is deleted", () -> ledger.write(1, 0));
        Check.due("11: file 0 is not", 4, ledger.write(0, 4));
        Check.throwsIndex("11: no file in a new one", () -> new AllotmentLedger().write(0, 0));
    }

    // "Returns how many blocks it used."
    private static void promise12EmptyFile() {
        AllotmentLedger ledger = withFile();
        Check.due("12: an empty one", 0, ledger.delete(0));
        Check.throwsIndex("12: again", () -> ledger.delete(0));
        Check.due("19: none is left", 0, ledger.filesOf(USER, 0));
        Check.due("19: none in the root", 0, ledger.filesOf(PROJECT, 0));
    }

    private static void promise12ReservedBlocks() {
        AllotmentLedger ledger = withFile();
        ledger.reserve(0, 1000);
        ledger.reserve(0, 1);
        Check.due("12: reserved ones alone", 1001, ledger.delete(0));
        Check.due("18: none is used", 0, ledger.used(USER, 0));
        Check.due("20: none is used", 0, ledger.usedByFiles(USER, 0));
    }

    private static void promise12SettledBlocks() {
        AllotmentLedger ledger = withFile();
        ledger.write(0, 100);
        ledger.reserve(0, 10);
        ledger.reserve(0, 20);
        ledger.settle(0, 3);
        Check.due("12: written, settled and open ones", 123, ledger.delete(0));
    }

    // "Its open reservations are given up."
    private static void promise12ReservationsAreGivenUp() {
        AllotmentLedger ledger = withFile();
        ledger.makeFile(0, 0);
        ledger.reserve(0, 1);
        ledger.reserve(1, 2);
        ledger.reserve(0, 4);
        ledger.delete(0);
        Check.throwsIndex("15: its first one", () -> ledger.settle(0, 0));
        Check.throwsIndex("15: its last one", () -> ledger.settle(2, 0));
        Check.due("18: the other's is held", 2, ledger.used(USER, 0));
        Check.due("15: the other's is open", 2, ledger.settle(1, 2));
        Check.due("14: they keep their numbers", 3, ledger.reserve(1, 1));
    }

    private static void promise12BeyondAllLimits() {
        AllotmentLedger ledger = withFile();
        ledger.write(0, 10);
        ledger.setLimits(USER, 0, 0, 0, 0);
        ledger.pass(48);
        Check.due("12: nothing bars less", 10, ledger.delete(0));
        Check.due("21: it is not over behind it", NONE, ledger.grace(USER, 0));
    }

    private static void promise12LastFile() {
        AllotmentLedger ledger = new AllotmentLedger();
        Check.throwsIndex("12: no file 0", () -> ledger.delete(0));
        for (int file = 0; file < 40; file++) {
            ledger.makeFile(0, 0);
        }
        Check.throwsIndex("12: no file 40", () -> ledger.delete(40));
        Check.throwsIndex("12: no file -1", () -> ledger.delete(-1));
        Check.due("12: file 39", 0, ledger.delete(39));
        Check.throwsIndex("12: file 39 again", () -> ledger.delete(39));
        Check.due("12: file 0", 0, ledger.delete(0));
    }

    // "Moves a file to another project; nothing is barred."
    private static void promise13NothingIsBarred() {
        AllotmentLedger ledger = Ledgers.withProjects("a", "b");
        ledger.makeFile(0, 1);
        ledger.makeFile(0, 2);
        ledger.write(0, 10);
        ledger.write(1, 10);
        ledger.setLimits(USER, 0, 0, 0, 0);
        ledger.setLimits(PROJECT, 2, 5, 0, 0);
        ledger.pass(48);
        Check.due("13: beyond each limit", 1, ledger.moveFile(0, 2));
        Check.due("18: used of b", 20, ledger.used(PROJECT, 2));
        Check.due("19: files of b", 2, ledger.filesOf(PROJECT, 2));
        Check.due("18: used of a", 0, ledger.used(PROJECT, 1));
        Check.due("19: files of a", 0, ledger.filesOf(PROJECT, 1));
    }

    // "Returns the project before."
    private static void promise13SameProject() {
        AllotmentLedger ledger = Ledgers.withProjects("a");
        ledger.makeFile(0, 1);
        ledger.write(0, 10);
        Check.due("13: to where it is", 1, ledger.moveFile(0, 1));
        Check.due("18: used", 10, ledger.used(PROJECT, 1));
        Check.due("19: files", 1, ledger.filesOf(PROJECT, 1));
        Check.due("13: to the root", 1, ledger.moveFile(0, 0));
        Check.due("13: to the root again", 0, ledger.moveFile(0, 0));
        Check.due("19: files of the root", 1, ledger.filesOf(PROJECT, 0));
    }

    private static void promise13UpAndDown() {
        AllotmentLedger ledger = Ledgers.withProjects("a", "ab", "abc");
        ledger.makeFile(4, 2);
        ledger.write(0, 10);
        int[] targets = {3, 1, 2, 0};
        int[] before = {2, 3, 1, 2};
        for (int i = 0; i < targets.length; i++) {
            Check.due("13: project before", before[i], ledger.moveFile(0, targets[i]));
            for (int project = 0; project < 4; project++) {
                Check.due("18: used of " + project, project <= targets[i] ? 10 : 0, ledger.used(PROJECT, project));
                Check.due("19: files of " + project, project <= targets[i] ? 1 : 0, ledger.filesOf(PROJECT, project));
            }
            Check.due("18: used of its owner", 10, ledger.used(USER, 4));
            Check.due("19: files of its group", 1, ledger.filesOf(GROUP, 1));
        }
    }

    private static void promise13LastFileAndProject() {
        AllotmentLedger ledger = Ledgers.withProjects("a");
        ledger.makeFile(0, 0);
        Check.throwsIndex("13: no file 1", () -> ledger.moveFile(1, 0));
        Check.throwsIndex("13: no file -1", () -> ledger.moveFile(-1, 0));
        Check.throwsIndex("13: no project 2", () -> ledger.moveFile(0, 2));
        Check.throwsIndex("13: no project -1", () -> ledger.moveFile(0, -1));
        Check.due("13: it is in the root yet", 0, ledger.moveFile(0, 1));
        ledger.delete(0);
        Check.throwsIndex("13: deleted", () -> ledger.moveFile(0, 0));
    }

    private static void promise13ReservationsMoveToo() {
        AllotmentLedger ledger = Ledgers.withProjects("a", "b");
        ledger.makeFile(0, 1);
        ledger.reserve(0, 5);
        ledger.reserve(0, 7);
        ledger.settle(0, 0);
        ledger.moveFile(0, 2);
        Check.due("18: open ones alone", 7, ledger.used(PROJECT, 2));
        Check.due("20: open ones alone", 7, ledger.usedByFiles(PROJECT, 2));
        Check.due("18: none is left", 0, ledger.used(PROJECT, 1));
        Check.due("20: none is left", 0, ledger.usedByFiles(PROJECT, 1));
    }

    // "blocks: 1 to 1000"
    private static void promise14OneAndThousandBlocks() {
        AllotmentLedger ledger = withFile();
        Check.throwsArgument("14: 0", () -> ledger.reserve(0, 0));
        Check.due("14: 1", 0, ledger.reserve(0, 1));
        Check.throwsArgument("14: 1001", () -> ledger.reserve(0, 1001));
        Check.due("14: 1000", 1, ledger.reserve(0, 1000));
        Check.throwsArgument("14: -1", () -> ledger.reserve(0, -1));
        Check.due("18: held", 1001, ledger.used(USER, 0));
        Check.due("11: nothing is written", 0, ledger.write(0, 0));
    }

    // "Throws IllegalStateException if there are 30 reservations"
    private static void promise14ThirtyReservations() {
        AllotmentLedger ledger = withFile();
        for (int i = 0; i < 29; i++) {
            ledger.reserve(0, 1000);
        }
        Check.due("14: the thirtieth", 29, ledger.reserve(0, 1000));
        Check.throwsState("14: the thirty-first", () -> ledger.reserve(0, 1));
        Check.throwsArgument("14: the thirty-first of 0 blocks", () -> ledger.reserve(0, 0));
        Check.throwsIndex("14: the thirty-first for no file", () -> ledger.reserve(1, 1));
        Check.due("18: all are held", 30000, ledger.used(USER, 0));
        Check.due("15: the thirtieth is open", 1000, ledger.settle(29, 1000));
        Check.due("12: all are its own", 30000, ledger.delete(0));
    }

    // "closed ones counted"
    private static void promise14ClosedOnesAmongThirty() {
        AllotmentLedger ledger = withFile();
        for (int i = 0; i < 30; i++) {
            ledger.reserve(0, 2);
            ledger.settle(i, 1);
        }
        Check.throwsState("14: all are closed", () -> ledger.reserve(0, 1));
        AllotmentLedger given = new AllotmentLedger();
        for (int i = 0; i < 30; i++) {
            given.makeFile(0, 0);
            given.reserve(i, 2);
            given.delete(i);
        }
        given.makeFile(0, 0);
        Check.throwsState("14: all are given up", () -> given.reserve(30, 1));
        Check.due("18: none is held", 0, given.used(USER, 0));
    }

    private static void promise14BarredTakesNoNumber() {
        AllotmentLedger ledger = withFile();
        ledger.setLimits(PROJECT, 0, NONE, 5, NONE);
        for (int call = 0; call < 40; call++) {
            Check.due("14: barred", -4, ledger.reserve(0, 6));
        }
        Check.due("14: up to the limit", 0, ledger.reserve(0, 5));
        Check.due("14: barred by what is held", -4, ledger.reserve(0, 1));
        Check.due("18: held", 5, ledger.used(PROJECT, 0));
    }

    private static void promise14LastFile() {
        AllotmentLedger ledger = withFile();
        Check.throwsIndex("14: no file 1", () -> ledger.reserve(1, 1));
        Check.throwsIndex("14: no file -1", () -> ledger.reserve(-1, 1));
        ledger.makeFile(0, 0);
        ledger.delete(0);
        Check.throwsIndex("14: deleted", () -> ledger.reserve(0, 1));
        Check.throwsIndex("14: deleted, blocks wrong", () -> ledger.reserve(0, 0));
        Check.due("14: file 1", 0, ledger.reserve(1, 1));
    }

    // "blocks: 0 to what it holds: how many are written"
    private static void promise15NoneAndAll() {
        for (int held : new int[] {1, 2, 1000}) {
            AllotmentLedger ledger = withFile();
            ledger.reserve(0, held);
            ledger.reserve(0, held);
            Check.throwsArgument("15: -1", () -> ledger.settle(0, -1));
            Check.throwsArgument("15: one more than it holds", () -> ledger.settle(0, held + 1));
            Check.due("15: all", held, ledger.settle(0, held));
            Check.due("18: as many are used", 2 * held, ledger.used(USER, 0));
            Check.due("15: none", held, ledger.settle(1, 0));
            Check.due("18: those of the file", held, ledger.used(USER, 0));
            Check.due("20: those of the file", held, ledger.usedByFiles(USER, 0));
        }
    }

    // "Returns the blocks of the file then."
    private static void promise15BlocksOfTheFile() {
        AllotmentLedger ledger = withFile();
        ledger.makeFile(0, 0);
        ledger.write(0, 100);
        ledger.write(1, 7);
        ledger.reserve(1, 20);
        ledger.reserve(0, 30);
        ledger.reserve(0, 40);
        Check.due("15: without those that are held yet", 105, ledger.settle(1, 5));
        Check.due("15: of the other file", 17, ledger.settle(0, 10));
        Check.due("11: the file has them", 105, ledger.write(0, 0));
        Check.due("18: used", 162, ledger.used(USER, 0));
    }

    // "nothing is barred"
    private static void promise15NothingIsBarred() {
        AllotmentLedger ledger = withFile();
        ledger.reserve(0, 20);
        ledger.setLimits(USER, 0, 0, 0, 0);
        ledger.setLimits(GROUP, 0, 0, 0, 0);
        ledger.setLimits(PROJECT, 0, 0, 0, 0);
        ledger.pass(48);
        Check.due("15: beyond each limit, grace gone", 20, ledger.settle(0, 20));
        Check.due("18: used", 20, ledger.used(USER, 0));
        Check.due("21: over since then", 0, ledger.grace(USER, 0));
    }

    // "Throws IndexOutOfBoundsException if there is no such reservation, or it is not open"
    private static void promise15OpenOnesAlone() {
        AllotmentLedger ledger = withFile();
        Check.throwsIndex("15: no reservation 0", () -> ledger.settle(0, 0));
        ledger.reserve(0, 9);
        Check.throwsIndex("15: no reservation 1", () -> ledger.settle(1, 0));
        Check.throwsIndex("15: no reservation -1", () -> ledger.settle(-1, 0));
        Check.due("15: closed", 4, ledger.settle(0, 4));
        Check.throwsIndex("15: closed again", () -> ledger.settle(0, 4));
        Check.throwsIndex("15: closed again, blocks wrong", () -> ledger.settle(0, 10));
        Check.due("18: used", 4, ledger.used(USER, 0));
        ledger.reserve(0, 9);
        ledger.delete(0);
        Check.throwsIndex("15: given up", () -> ledger.settle(1, 0));
        Check.throwsIndex("15: given up, blocks wrong", () -> ledger.settle(1, -1));
    }

    private static void promise15BehindAMove() {
        AllotmentLedger ledger = Ledgers.withProjects("a", "b");
        ledger.makeFile(0, 1);
        ledger.reserve(0, 9);
        ledger.moveFile(0, 2);
        Check.due("15: it holds for the file yet", 4, ledger.settle(0, 4));
        Check.due("18: used of b", 4, ledger.used(PROJECT, 2));
        Check.due("18: used of a", 0, ledger.used(PROJECT, 1));
    }
}
