/** Promises 23 to 25: the recount. */
public final class RecountTest {
    private static final int USER = AllotmentLedger.USER;
    private static final int GROUP = AllotmentLedger.GROUP;
    private static final int PROJECT = AllotmentLedger.PROJECT;

    public static void main(String[] args) {
        beginning();
        taking();
        takingWrongly();
        takingFilesMadeLater();
        countedWrongly();
        changesOfTakenFiles();
        changesOfFilesBehind();
        movesOfProjects();
        wholeRecount();
        Check.end();
    }

    private static void dueCounts(String what, AllotmentLedger ledger, int... projects) {
        for (int project = 0; project < projects.length; project++) {
            Check.due(what + ", counted of project " + project, projects[project], ledger.counted(PROJECT, project));
        }
    }

    private static void beginning() {
        AllotmentLedger ledger = Ledgers.withFourFiles();
        Check.due("23: no files", 0, new AllotmentLedger().beginRecount());
        ledger.delete(1);
        Check.due("23: deleted ones counted", 4, ledger.beginRecount());
        dueCounts("23: begun", ledger, 0, 0, 0, 0);
        ledger.recount(3);
        dueCounts("23: three taken", ledger, 101, 1, 0, 100);
        Check.due("23: begun while one goes on", 4, ledger.beginRecount());
        for (int kind = 0; kind < 3; kind++) {
            Check.due("23: counts of 0", 0, ledger.counted(kind, 0));
        }
        Check.due("23: all are left", 3, ledger.recount(1));
        ledger.recount(40);
        Check.due("23: begun when all are taken", 4, ledger.beginRecount());
        dueCounts("23: begun again", ledger, 0, 0, 0, 0);
    }

    private static void taking() {
        AllotmentLedger ledger = Ledgers.withFourFiles();
        ledger.reserve(1, 5);
        ledger.beginRecount();
        Check.due("24: one taken", 3, ledger.recount(1));
        dueCounts("24: one taken", ledger, 1, 1, 0, 0);
        Check.due("24: two more taken", 1, ledger.recount(2));
        dueCounts("24: three taken", ledger, 116, 16, 15, 100);
        Check.due("24: counted of a user", 15, ledger.counted(USER, 1));
        Check.due("24: counted of a group", 1, ledger.counted(GROUP, 0));
        Check.due("24: all that are left", 0, ledger.recount(40));
        Check.due("24: counted of a group of two", 1001, ledger.counted(GROUP, 0));
        Check.due("24: none is left", 0, ledger.recount(1));
        dueCounts("24: all taken", ledger, 1116, 16, 15, 100);
    }

    private static void takingWrongly() {
        AllotmentLedger ledger = Ledgers.withFourFiles();
        Check.throwsState("24: not begun", () -> ledger.recount(1));
        Check.throwsArgument("24: not begun, 0 files", () -> ledger.recount(0));
        Check.throwsArgument("24: not begun, 41 files", () -> ledger.recount(41));
        ledger.beginRecount();
        for (int wrong : new int[] {0, -1, 41, Integer.MIN_VALUE, Integer.MAX_VALUE}) {
            Check.throwsArgument("24: files " + wrong, () -> ledger.recount(wrong));
        }
        Check.due("24: wrong calls take nothing", 3, ledger.recount(1));
    }

    private static void takingFilesMadeLater() {
        AllotmentLedger ledger = Ledgers.withFourFiles();
        ledger.beginRecount();
        ledger.recount(4);
        ledger.makeFile(5, 1);
        ledger.write(4, 7);
        dueCounts("24: made later", ledger, 1111, 11, 10, 100);
        Check.due("24: taken by a further call", 0, ledger.recount(1));
        dueCounts("24: taken later", ledger, 1118, 18, 10, 100);
        ledger.makeFile(5, 1);
        ledger.makeFile(5, 1);
        Check.due("24: one of two left", 1, ledger.recount(1));
        Ledgers.path(ledger, "z");
        int made = ledger.makeProject();
        Check.due("25: a project made later", 0, ledger.counted(PROJECT, made));
        ledger.moveFile(0, made);
        Check.due("25: a taken file moved into it", 1, ledger.counted(PROJECT, made));
    }

    private static void countedWrongly() {
        AllotmentLedger ledger = Ledgers.withFourFiles();
        Check.throwsState("25: not begun", () -> ledger.counted(USER, 0));
        Check.throwsIndex("25: not begun, no user", () -> ledger.counted(USER, 6));
        Check.throwsIndex("25: not begun, no kind", () -> ledger.counted(3, 0));
        ledger.beginRecount();
        Check.throwsIndex("25: no project", () -> ledger.counted(PROJECT, 4));
        Check.throwsIndex("25: no group", () -> ledger.counted(GROUP, -1));
        Check.due("25: begun", 0, ledger.counted(USER, 0));
    }

    private static void changesOfTakenFiles() {
        AllotmentLedger ledger = Ledgers.withFourFiles();
        ledger.beginRecount();
        ledger.recount(3);
        ledger.write(0, 4);
        dueCounts("25: written", ledger, 115, 15, 10, 100);
        ledger.write(2, -50);
        dueCounts("25: taken away", ledger, 65, 15, 10, 50);
        ledger.reserve(1, 20);
        dueCounts("25: reserved", ledger, 85, 35, 30, 50);
        ledger.settle(0, 5);
        dueCounts("25: settled", ledger, 70, 20, 15, 50);
        ledger.moveFile(1, 3);
        dueCounts("25: moved", ledger, 70, 5, 0, 65);
        Check.due("25: the owner's stay", 15, ledger.counted(USER, 1));
        ledger.reserve(2, 3);
        ledger.delete(2);
        dueCounts("25: deleted", ledger, 20, 5, 0, 15);
        Check.due("25: deleted, its group", 0, ledger.counted(GROUP, 2));
        Check.due("25: one is left", 0, ledger.recount(1));
        dueCounts("25: all taken", ledger, 1020, 5, 0, 15);
    }

    private static void changesOfFilesBehind() {
        AllotmentLedger ledger = Ledgers.withFourFiles();
        ledger.beginRecount();
        ledger.recount(1);
        ledger.write(1, 5);
        ledger.reserve(2, 30);
        ledger.moveFile(2, 1);
        ledger.settle(0, 10);
        ledger.delete(3);
        dueCounts("25: behind", ledger, 1, 1, 0, 0);
        ledger.recount(1);
        dueCounts("25: as it is then", ledger, 16, 16, 15, 0);
        ledger.recount(1);
        dueCounts("25: where it is then", ledger, 126, 126, 15, 0);
        Check.due("25: a deleted one is taken", 0, ledger.recount(1));
        dueCounts("25: but not counted", ledger, 126, 126, 15, 0);
    }

    private static void movesOfProjects() {
        AllotmentLedger ledger = Ledgers.withFourFiles();
        ledger.makeFile(4, 2);
        ledger.write(4, 500);
        ledger.beginRecount();
        ledger.recount(2);
        Ledgers.path(ledger, "b");
        ledger.moveProject(2);
        dueCounts("25: the project of a taken file moved", ledger, 11, 1, 10, 10);
        ledger.recount(40);
        dueCounts("25: of a file behind too", ledger, 1611, 1, 510, 610);
    }

    private static void wholeRecount() {
        AllotmentLedger ledger = Ledgers.withFourFiles();
        ledger.reserve(3, 77);
        ledger.beginRecount();
        ledger.recount(40);
        int[] accounts = {6, 3, 4};
        for (int kind = 0; kind < 3; kind++) {
            for (int number = 0; number < accounts[kind]; number++) {
                Check.due("25: finds again what the ledger says", ledger.used(kind, number),
                        ledger.counted(kind, number));
            }
        }
    }
}
