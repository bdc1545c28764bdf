/** Promises 10 to 15: files and reservations. */
public final class FilesTest {
    private static final int USER = AllotmentLedger.USER;
    private static final int GROUP = AllotmentLedger.GROUP;
    private static final int PROJECT = AllotmentLedger.PROJECT;
    private static final int NONE = AllotmentLedger.NONE;

    public static void main(String[] args) {
        makingFiles();
        makingBarredFiles();
        mostFiles();
        writing();
        writingWrongly();
        writingBarred();
        writingWhenGraceIsGone();
        barringPlaces();
        deleting();
        movingFiles();
        movingFilesKeepsOver();
        reserving();
        reservingWrongly();
        mostReservations();
        settling();
        settlingWrongly();
        Check.end();
    }

    private static void makingFiles() {
        AllotmentLedger ledger = Ledgers.withProjects("a", "ab", "b");
        Check.due("10: first file", 0, ledger.makeFile(5, 2));
        Check.due("10: second file", 1, ledger.makeFile(2, 3));
        Check.due("10: third file", 2, ledger.makeFile(0, 0));
        Check.due("10: of the owner", 1, ledger.filesOf(USER, 5));
        Check.due("10: of the group of users 2 and 5", 2, ledger.filesOf(GROUP, 2));
        Check.due("10: of ab", 1, ledger.filesOf(PROJECT, 2));
        Check.due("10: of a", 1, ledger.filesOf(PROJECT, 1));
        Check.due("10: of b", 1, ledger.filesOf(PROJECT, 3));
        Check.due("10: of the root", 3, ledger.filesOf(PROJECT, 0));
        Check.due("10: without blocks", 0, ledger.write(0, 0));
        Check.throwsIndex("10: user -1", () -> ledger.makeFile(-1, 0));
        Check.throwsIndex("10: user 6", () -> ledger.makeFile(6, 0));
        Check.throwsIndex("10: project -1", () -> ledger.makeFile(0, -1));
        Check.throwsIndex("10: project 4", () -> ledger.makeFile(0, 4));
        Check.due("10: wrong ones are not made", 3, ledger.makeFile(0, 0));
    }

    private static void makingBarredFiles() {
        AllotmentLedger ledger = Ledgers.withProjects("a", "ab", "abc");
        int[] kinds = {USER, GROUP, PROJECT, PROJECT, PROJECT, PROJECT};
        int[] numbers = {4, 1, 3, 2, 1, 0};
        for (int place = 0; place < kinds.length; place++) {
            ledger.setLimits(kinds[place], numbers[place], NONE, NONE, 0);
            Check.due("10: barred at " + place, -2 - place, ledger.makeFile(4, 3));
            ledger.setLimits(kinds[place], numbers[place], NONE, NONE, 1);
        }
        Check.due("10: up to the limit", 0, ledger.makeFile(4, 3));
        Check.due("10: barred by the first", -2, ledger.makeFile(4, 3));
        ledger.setLimits(USER, 4, NONE, NONE, NONE);
        Check.due("10: barred by the second", -3, ledger.makeFile(4, 3));
        ledger.setLimits(GROUP, 1, NONE, NONE, 100);
        Check.due("10: barred by its project", -4, ledger.makeFile(4, 3));
        Check.due("10: barred by the project of the file alone", -4, ledger.makeFile(0, 0));
        ledger.delete(0);
        Check.due("10: a deleted one does not count", 1, ledger.makeFile(4, 3));
        blocksBarNoFile();
    }

    private static void blocksBarNoFile() {
        AllotmentLedger ledger = new AllotmentLedger();
        ledger.makeFile(0, 0);
        ledger.write(0, 10);
        ledger.setLimits(USER, 0, 5, 5, NONE);
        ledger.pass(100);
        Check.due("10: beyond the limits of blocks, grace gone", 1, ledger.makeFile(0, 0));
    }

    private static void mostFiles() {
        AllotmentLedger ledger = new AllotmentLedger();
        for (int file = 0; file < 40; file++) {
            Check.due("10: file", file, ledger.makeFile(file % 6, 0));
        }
        ledger.delete(7);
        ledger.setLimits(PROJECT, 0, NONE, NONE, 0);
        Check.throwsState("10: file 40, one deleted, barred too", () -> ledger.makeFile(0, 0));
        Check.throwsIndex("10: file 40 of user 6", () -> ledger.makeFile(6, 0));
        Check.throwsIndex("10: file 40 in project 1", () -> ledger.makeFile(0, 1));
        Check.due("10: file 39 is there", 3, ledger.write(39, 3));
    }

    private static void writing() {
        AllotmentLedger ledger = Ledgers.withProjects("a", "b");
        ledger.makeFile(3, 1);
        Check.due("11: write 1000", 1000, ledger.write(0, 1000));
        Check.due("11: write 0", 1000, ledger.write(0, 0));
        Check.due("11: write 1", 1001, ledger.write(0, 1));
        Check.due("11: take 1000", 1, ledger.write(0, -1000));
        Check.due("11: used of the owner", 1, ledger.used(USER, 3));
        Check.due("11: used of the group", 1, ledger.used(GROUP, 0));
        Check.due("11: used of the project", 1, ledger.used(PROJECT, 1));
        Check.due("11: used of the root", 1, ledger.used(PROJECT, 0));
        Check.due("11: used of another user", 0, ledger.used(USER, 0));
        Check.due("11: used of another project", 0, ledger.used(PROJECT, 2));
        Check.due("11: take the last", 0, ledger.write(0, -1));
    }

    private static void writingWrongly() {
        AllotmentLedger ledger = new AllotmentLedger();
        ledger.makeFile(0, 0);
        ledger.makeFile(0, 0);
        ledger.delete(1);
        ledger.write(0, 5);
        ledger.reserve(0, 5);
        Check.throwsIndex("11: file -1", () -> ledger.write(-1, 0));
        Check.throwsIndex("11: file 2", () -> ledger.write(2, 0));
        Check.throwsIndex("11: a deleted file", () -> ledger.write(1, 0));
        Check.throwsIndex("11: a deleted file, blocks wrong", () -> ledger.write(1, 1001));
        Check.throwsArgument("11: 1001", () -> ledger.write(0, 1001));
        Check.throwsArgument("11: -1001", () -> ledger.write(0, -1001));
        Check.throwsArgument("11: lowest", () -> ledger.write(0, Integer.MIN_VALUE));
        Check.throwsArgument("11: highest", () -> ledger.write(0, Integer.MAX_VALUE));
        Check.throwsArgument("11: fewer than 0, reserved ones are not its own", () -> ledger.write(0, -6));
        ledger.setLimits(USER, 0, NONE, 0, NONE);
        Check.throwsArgument("11: out of range and barred", () -> ledger.write(0, 1001));
        Check.due("11: wrong writes change nothing", 5, ledger.write(0, 0));
    }

    private static void writingBarred() {
        AllotmentLedger ledger = new AllotmentLedger();
        ledger.makeFile(0, 0);
        ledger.setLimits(USER, 0, NONE, 10, NONE);
        Check.due("11: up to the hard limit", 10, ledger.write(0, 10));
        Check.due("11: one more", -2, ledger.write(0, 1));
        Check.due("11: nothing is changed", 10, ledger.used(USER, 0));
        Check.due("11: nothing is written", 10, ledger.write(0, 0));
        ledger.setLimits(USER, 0, NONE, 5, NONE);
        Check.due("11: beyond a later limit 0 is not barred", 10, ledger.write(0, 0));
        Check.due("11: nor is less", 8, ledger.write(0, -2));
        Check.due("11: more is", -2, ledger.write(0, 1));
        ledger.setLimits(USER, 0, NONE, NONE, 0);
        Check.due("11: a limit of files bars no blocks", 9, ledger.write(0, 1));
        ledger.setLimits(USER, 0, 0, NONE, NONE);
        Check.due("11: a soft limit bars nothing while there is grace", 10, ledger.write(0, 1));
        ledger.setLimits(USER, 0, NONE, 15, NONE);
        ledger.reserve(0, 4);
        Check.due("11: reserved ones count", -2, ledger.write(0, 2));
        Check.due("11: to the limit", 11, ledger.write(0, 1));
    }

    private static void writingWhenGraceIsGone() {
        AllotmentLedger ledger = new AllotmentLedger();
        ledger.makeFile(0, 0);
        ledger.setLimits(GROUP, 0, 10, 1000, NONE);
        ledger.write(0, 11);
        ledger.pass(47);
        Check.due("11: grace of an hour", 12, ledger.write(0, 1));
        ledger.pass(1);
        Check.due("11: grace gone", -3, ledger.write(0, 1));
        Check.due("11: 0 needs no more", 12, ledger.write(0, 0));
        Check.due("11: less, but over yet", 11, ledger.write(0, -1));
        Check.due("11: grace is gone yet", -3, ledger.write(0, 1));
        Check.due("11: not over", 10, ledger.write(0, -1));
        Check.due("11: over anew", 11, ledger.write(0, 1));
        Check.due("11: with grace anew", 12, ledger.write(0, 1));
    }

    private static void barringPlaces() {
        AllotmentLedger ledger = Ledgers.withProjects(
                "a", "ab", "abc", "abcd", "abcde", "abcdef", "abcdefg", "abcdefgh");
        ledger.makeFile(5, 8);
        int[] kinds = {USER, GROUP, PROJECT, PROJECT, PROJECT, PROJECT, PROJECT, PROJECT, PROJECT, PROJECT, PROJECT};
        int[] numbers = {5, 2, 8, 7, 6, 5, 4, 3, 2, 1, 0};
        for (int place = kinds.length - 1; place >= 0; place--) {
            ledger.setLimits(kinds[place], numbers[place], NONE, 0, 1);
            Check.due("11: barring place of write", -2 - place, ledger.write(0, 1));
            Check.due("14: barring place of reserve", -2 - place, ledger.reserve(0, 1));
            Check.due("10: barring place of makeFile", -2 - place, ledger.makeFile(5, 8));
        }
    }

    private static void deleting() {
        AllotmentLedger ledger = Ledgers.withProjects("a");
        ledger.makeFile(1, 1);
        ledger.makeFile(1, 1);
        ledger.write(0, 10);
        ledger.write(1, 100);
        ledger.reserve(0, 3);
        ledger.reserve(0, 4);
        ledger.reserve(1, 5);
        ledger.settle(1, 1);
        Check.due("12: its blocks and open reservations", 14, ledger.delete(0));
        Check.throwsIndex("12: again", () -> ledger.delete(0));
        Check.throwsIndex("12: file 2", () -> ledger.delete(2));
        Check.throwsIndex("12: file -1", () -> ledger.delete(-1));
        Check.throwsIndex("12: its reservation is given up", () -> ledger.settle(0, 0));
        Check.due("12: used", 105, ledger.used(PROJECT, 1));
        Check.due("12: used by files", 105, ledger.usedByFiles(PROJECT, 0));
        Check.due("12: files", 1, ledger.filesOf(USER, 1));
        Check.due("12: another's reservation is open", 105, ledger.settle(2, 5));
        Check.due("12: the number is not given again", 2, ledger.makeFile(0, 0));
        Check.due("12: an empty one", 0, ledger.delete(2));
        ledger.setLimits(USER, 1, 50, NONE, NONE);
        ledger.pass(5);
        ledger.delete(1);
        Check.due("12: not over behind it", NONE, ledger.grace(USER, 1));
    }

    private static void movingFiles() {
        AllotmentLedger ledger = Ledgers.withProjects("a", "ab", "b");
        ledger.makeFile(0, 2);
        ledger.write(0, 10);
        ledger.reserve(0, 5);
        ledger.setLimits(PROJECT, 3, 1, 1, 0);
        Check.due("13: nothing is barred", 2, ledger.moveFile(0, 3));
        int[] used = {15, 0, 0, 15};
        for (int project = 0; project < 4; project++) {
            Check.due("13: used", used[project], ledger.used(PROJECT, project));
            Check.due("13: used by files", used[project], ledger.usedByFiles(PROJECT, project));
            Check.due("13: files", used[project] / 15, ledger.filesOf(PROJECT, project));
        }
        Check.due("13: the owner has it yet", 15, ledger.used(USER, 0));
        Check.due("13: over now", 48, ledger.grace(PROJECT, 3));
        Check.due("13: to where it is", 3, ledger.moveFile(0, 3));
        Check.throwsIndex("13: file 1", () -> ledger.moveFile(1, 0));
        Check.throwsIndex("13: file -1", () -> ledger.moveFile(-1, 0));
        Check.throwsIndex("13: project 4", () -> ledger.moveFile(0, 4));
        Check.throwsIndex("13: project -1", () -> ledger.moveFile(0, -1));
        Check.due("13: to the root", 3, ledger.moveFile(0, 0));
        Check.due("13: not over behind it", NONE, ledger.grace(PROJECT, 3));
        ledger.delete(0);
        Check.throwsIndex("13: a deleted file", () -> ledger.moveFile(0, 1));
    }

    private static void movingFilesKeepsOver() {
        AllotmentLedger ledger = Ledgers.withProjects("a", "ab");
        ledger.makeFile(0, 1);
        ledger.write(0, 10);
        ledger.setLimits(USER, 0, 5, NONE, NONE);
        ledger.setLimits(PROJECT, 1, 5, NONE, NONE);
        ledger.pass(20);
        ledger.moveFile(0, 2);
        Check.due("13: the owner is over since then", 28, ledger.grace(USER, 0));
        Check.due("13: the project above is over since then", 28, ledger.grace(PROJECT, 1));
    }

    private static void reserving() {
        AllotmentLedger ledger = Ledgers.withProjects("a");
        ledger.makeFile(2, 1);
        ledger.write(0, 1);
        Check.due("14: first", 0, ledger.reserve(0, 1));
        Check.due("14: second", 1, ledger.reserve(0, 1000));
        Check.due("14: used of the owner", 1002, ledger.used(USER, 2));
        Check.due("14: used of the group", 1002, ledger.used(GROUP, 2));
        Check.due("14: used of the project", 1002, ledger.used(PROJECT, 1));
        Check.due("14: used of the root", 1002, ledger.usedByFiles(PROJECT, 0));
        Check.due("14: the blocks of the file stay", 1, ledger.write(0, 0));
        ledger.setLimits(PROJECT, 0, 1000, 1010, NONE);
        Check.due("14: barred by the root", -5, ledger.reserve(0, 9));
        Check.due("14: the number is not taken", 2, ledger.reserve(0, 8));
        ledger.pass(48);
        ledger.setLimits(PROJECT, 0, 1000, NONE, NONE);
        Check.due("14: grace gone", -5, ledger.reserve(0, 1));
        ledger.setLimits(PROJECT, 0, NONE, NONE, 0);
        Check.due("14: a limit of files bars no blocks", 3, ledger.reserve(0, 1));
    }

    private static void reservingWrongly() {
        AllotmentLedger ledger = new AllotmentLedger();
        ledger.makeFile(0, 0);
        ledger.makeFile(0, 0);
        ledger.delete(1);
        Check.throwsIndex("14: file 2", () -> ledger.reserve(2, 1));
        Check.throwsIndex("14: file -1", () -> ledger.reserve(-1, 1));
        Check.throwsIndex("14: a deleted file", () -> ledger.reserve(1, 1));
        Check.throwsIndex("14: a deleted file, blocks wrong", () -> ledger.reserve(1, 0));
        Check.throwsArgument("14: 0 blocks", () -> ledger.reserve(0, 0));
        Check.throwsArgument("14: -1 blocks", () -> ledger.reserve(0, -1));
        Check.throwsArgument("14: 1001 blocks", () -> ledger.reserve(0, 1001));
        Check.due("14: wrong ones take no number", 0, ledger.reserve(0, 1));
    }

    private static void mostReservations() {
        AllotmentLedger ledger = new AllotmentLedger();
        ledger.makeFile(0, 0);
        for (int i = 0; i < 30; i++) {
            Check.due("14: reservation", i, ledger.reserve(0, 2));
        }
        ledger.settle(29, 0);
        ledger.setLimits(USER, 0, NONE, 0, NONE);
        Check.throwsState("14: reservation 30, one closed, barred too", () -> ledger.reserve(0, 1));
        Check.throwsArgument("14: reservation 30 of 0 blocks", () -> ledger.reserve(0, 0));
        Check.throwsIndex("14: reservation 30 for file 1", () -> ledger.reserve(1, 0));
        Check.due("14: nothing more is used", 58, ledger.used(USER, 0));
    }

    private static void settling() {
        AllotmentLedger ledger = Ledgers.withProjects("a");
        ledger.makeFile(0, 1);
        ledger.write(0, 5);
        ledger.reserve(0, 10);
        ledger.reserve(0, 20);
        ledger.reserve(0, 30);
        ledger.setLimits(USER, 0, 20, 0, NONE);
        Check.due("15: some, nothing is barred", 9, ledger.settle(0, 4));
        Check.due("15: used", 59, ledger.used(USER, 0));
        Check.due("15: used by files", 59, ledger.usedByFiles(PROJECT, 1));
        ledger.pass(20);
        Check.due("15: all", 39, ledger.settle(2, 30));
        Check.due("15: used is the same", 59, ledger.used(PROJECT, 1));
        Check.due("15: over since before", 28, ledger.grace(USER, 0));
        Check.due("15: none", 39, ledger.settle(1, 0));
        Check.due("15: used is less", 39, ledger.used(GROUP, 0));
    }

    private static void settlingWrongly() {
        AllotmentLedger ledger = new AllotmentLedger();
        ledger.makeFile(0, 0);
        ledger.reserve(0, 10);
        ledger.reserve(0, 5);
        Check.throwsIndex("15: reservation -1", () -> ledger.settle(-1, 0));
        Check.throwsIndex("15: reservation 2", () -> ledger.settle(2, 0));
        Check.throwsIndex("15: reservation 2, blocks wrong", () -> ledger.settle(2, -1));
        Check.throwsArgument("15: -1 blocks", () -> ledger.settle(0, -1));
        Check.throwsArgument("15: 11 of 10 blocks", () -> ledger.settle(0, 11));
        Check.due("15: wrong calls close nothing", 10, ledger.settle(0, 10));
        Check.throwsIndex("15: a closed one", () -> ledger.settle(0, 0));
        Check.throwsIndex("15: a closed one, blocks wrong", () -> ledger.settle(0, 11));
        Check.due("15: used", 15, ledger.used(USER, 0));
    }
}
