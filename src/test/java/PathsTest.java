/** Promises 1 to 9: a new object, the buffer and the tree of projects. */
public final class PathsTest {
    public static void main(String[] args) {
        newObject();
        typing();
        takingBack();
        clearing();
        makingProjects();
        mostProjects();
        finding();
        movingProjects();
        movingRefused();
        movingTooDeep();
        movingToTheSameParent();
        movingAccounts();
        movingDeletedFiles();
        lettersOfPaths();
        countingProjects();
        Check.end();
    }

    private static void newObject() {
        AllotmentLedger ledger = new AllotmentLedger();
        Check.due("1: projects", 1, ledger.projects());
        Check.due("1: the empty path is the root", 0, ledger.findProject());
        Check.due("1: letters of the buffer", 0, ledger.clearPath());
        Check.due("1: the root has no letters", ' ', ledger.letterAt(0, 0));
        Check.throwsIndex("1: no file", () -> ledger.room(0));
        Check.throwsIndex("1: no reservation", () -> ledger.settle(0, 0));
        Check.throwsState("1: no recount", () -> ledger.counted(AllotmentLedger.USER, 0));
        Check.due("1: the clock stands at 0", 1, ledger.pass(1));
        int[] accounts = {6, 3, 1};
        for (int kind = 0; kind < 3; kind++) {
            for (int number = 0; number < accounts[kind]; number++) {
                Check.due("1: used", 0, ledger.used(kind, number));
                Check.due("1: files", 0, ledger.filesOf(kind, number));
                Check.due("1: grace", AllotmentLedger.NONE, ledger.grace(kind, number));
            }
        }
    }

    private static void typing() {
        AllotmentLedger ledger = new AllotmentLedger();
        for (char letter : new char[] {'`', '{', 'A', 'Z', ' ', '0', (char) 0, (char) 65535, (char) 225}) {
            Check.throwsArgument("2: type of " + (int) letter, () -> ledger.type(letter));
        }
        Check.due("2: a wrong letter is not typed", 0, ledger.clearPath());
        Check.due("2: type a", 1, ledger.type('a'));
        Check.due("2: type z", 2, ledger.type('z'));
        for (int letters = 3; letters <= 8; letters++) {
            Check.due("2: type m", letters, ledger.type('m'));
        }
        Check.throwsState("2: a ninth letter", () -> ledger.type('a'));
        Check.throwsArgument("2: a wrong ninth letter", () -> ledger.type('!'));
        Check.due("2: eight letters stay", 8, ledger.clearPath());
    }

    private static void takingBack() {
        AllotmentLedger ledger = Ledgers.withProjects("a", "ab");
        Check.throwsState("3: back of nothing", () -> ledger.back());
        Ledgers.path(ledger, "abc");
        Check.due("3: back from 3", 2, ledger.back());
        Check.due("3: the last one is gone", 2, ledger.findProject());
        Check.due("3: back from 2", 1, ledger.back());
        Check.due("3: the last two are gone", 1, ledger.findProject());
        Check.due("3: back from 1", 0, ledger.back());
        Check.throwsState("3: back of nothing again", () -> ledger.back());
        Ledgers.path(ledger, "abcdefgh");
        Check.due("3: back from 8", 7, ledger.back());
        Check.due("3: there is room for one", 8, ledger.type('z'));
    }

    private static void clearing() {
        AllotmentLedger ledger = new AllotmentLedger();
        Check.due("4: clear of nothing", 0, ledger.clearPath());
        Ledgers.path(ledger, "abcdefgh");
        Check.due("4: clear of 8", 8, ledger.clearPath());
        Check.due("4: clear again", 0, ledger.clearPath());
        Ledgers.path(ledger, "a");
        ledger.makeProject();
        ledger.findProject();
        ledger.makeFile(0, 1);
        ledger.write(0, 1);
        ledger.reserve(0, 1);
        ledger.settle(0, 1);
        ledger.moveFile(0, 0);
        ledger.beginRecount();
        ledger.recount(1);
        ledger.pass(1);
        ledger.delete(0);
        Check.outcome(() -> ledger.moveProject(1));
        Check.due("4: other calls leave the buffer", 1, ledger.clearPath());
    }

    private static void makingProjects() {
        AllotmentLedger ledger = new AllotmentLedger();
        Check.throwsState("5: the root is there", () -> ledger.makeProject());
        Ledgers.path(ledger, "ab");
        Check.throwsState("5: no parent", () -> ledger.makeProject());
        Ledgers.path(ledger, "a");
        Check.due("5: a", 1, ledger.makeProject());
        Check.throwsState("5: a is there", () -> ledger.makeProject());
        Check.due("5: a refused one is not counted", 2, ledger.projects());
        Ledgers.path(ledger, "ab");
        Check.due("5: ab", 2, ledger.makeProject());
        Ledgers.path(ledger, "b");
        Check.due("5: b", 3, ledger.makeProject());
        Ledgers.path(ledger, "bb");
        Check.due("5: bb", 4, ledger.makeProject());
        Ledgers.path(ledger, "bbbb");
        Check.throwsState("5: no parent but its parent", () -> ledger.makeProject());
        AllotmentLedger deep = Ledgers.withProjects(
                "z", "zy", "zyx", "zyxw", "zyxwv", "zyxwvu", "zyxwvut", "zyxwvuts");
        Check.due("5: eight letters", 9, deep.projects());
        Check.dueOutcome("5: path of eight letters", "zyxwvuts", Ledgers.pathOf(deep, 8));
    }

    private static void mostProjects() {
        AllotmentLedger ledger = new AllotmentLedger();
        for (int i = 0; i < 20; i++) {
            Ledgers.path(ledger, Character.toString((char) ('a' + i)));
            Check.due("5: project", i + 1, ledger.makeProject());
        }
        Ledgers.path(ledger, "z");
        Check.throwsState("5: a project beyond 20", () -> ledger.makeProject());
        Check.due("9: 20 beside the root", 21, ledger.projects());
        Check.due("6: the refused one is not there", AllotmentLedger.NONE, ledger.findProject());
        Check.due("10: the last project has files", 0, ledger.makeFile(0, 20));
    }

    private static void finding() {
        AllotmentLedger ledger = Ledgers.withProjects("a", "ab", "b", "ba");
        String[] paths = {"", "a", "ab", "b", "ba", "c", "aa", "bb", "aba", "ca"};
        int[] numbers = {0, 1, 2, 3, 4, -1, -1, -1, -1, -1};
        for (int i = 0; i < paths.length; i++) {
            Ledgers.path(ledger, paths[i]);
            Check.due("6: find " + paths[i], numbers[i], ledger.findProject());
        }
    }

    private static void movingProjects() {
        AllotmentLedger ledger = Ledgers.withProjects("a", "ab", "abc", "abd", "x", "xy", "c");
        Ledgers.path(ledger, "xy");
        Check.due("7: ab under xy", 3, ledger.moveProject(2));
        String[] paths = {"", "a", "xyb", "xybc", "xybd", "x", "xy", "c"};
        for (int project = 0; project < paths.length; project++) {
            Check.dueOutcome("7: path of " + project, paths[project], Ledgers.pathOf(ledger, project));
        }
        Check.due("7: the buffer stays", 6, ledger.findProject());
        Ledgers.path(ledger, "ab");
        Check.due("7: the old path is free", AllotmentLedger.NONE, ledger.findProject());
        Check.due("7: and can be made", 8, ledger.makeProject());
        ledger.clearPath();
        Check.throwsState("7: xybc under the root, where c is", () -> ledger.moveProject(3));
        Check.due("7: xybd under the root", 1, ledger.moveProject(4));
        Check.dueOutcome("7: a path of one letter", "d", Ledgers.pathOf(ledger, 4));
        Ledgers.path(ledger, "d");
        Check.due("7: a project with two others within", 4, ledger.moveProject(5));
        Check.dueOutcome("7: deepest of them", "dxybc", Ledgers.pathOf(ledger, 3));
    }

    private static void movingRefused() {
        AllotmentLedger ledger = Ledgers.withProjects("a", "ab", "b", "bb");
        Check.throwsIndex("7: project -1", () -> ledger.moveProject(-1));
        Check.throwsIndex("7: project 5", () -> ledger.moveProject(5));
        Check.throwsState("7: the root", () -> ledger.moveProject(0));
        Ledgers.path(ledger, "q");
        Check.throwsState("7: under a path of none", () -> ledger.moveProject(1));
        Check.throwsIndex("7: no project, under a path of none", () -> ledger.moveProject(5));
        Ledgers.path(ledger, "a");
        Check.throwsState("7: under itself", () -> ledger.moveProject(1));
        Check.throwsState("7: the root under another", () -> ledger.moveProject(0));
        Ledgers.path(ledger, "ab");
        Check.throwsState("7: under one within it", () -> ledger.moveProject(1));
        Ledgers.path(ledger, "b");
        Check.throwsState("7: its new path is another's", () -> ledger.moveProject(2));
        String[] paths = {"", "a", "ab", "b", "bb"};
        for (int project = 0; project < paths.length; project++) {
            Check.dueOutcome("7: refused moves change nothing", paths[project], Ledgers.pathOf(ledger, project));
        }
    }

    private static void movingTooDeep() {
        AllotmentLedger ledger = Ledgers.withProjects(
                "a", "ab", "abc", "ad", "b", "bc", "bcd", "bcde", "bcdef", "bcdefg");
        Ledgers.path(ledger, "bcdefg");
        Check.throwsState("7: nine letters of one within it", () -> ledger.moveProject(1));
        Check.dueOutcome("7: it stays", "ab", Ledgers.pathOf(ledger, 2));
        Ledgers.path(ledger, "bcdef");
        Check.due("7: eight letters", 4, ledger.moveProject(1));
        Check.dueOutcome("7: a path of eight letters", "bcdefabc", Ledgers.pathOf(ledger, 3));
        Ledgers.path(ledger, "bcdefab");
        Check.due("7: eight letters in the same place", 0, ledger.moveProject(3));
        Check.due("7: a single one to eight letters", 1, ledger.moveProject(4));
        Ledgers.path(ledger, "bcdefabc");
        Check.throwsState("7: nine letters of its own", () -> ledger.moveProject(10));
    }

    private static void movingToTheSameParent() {
        AllotmentLedger ledger = Ledgers.withProjects("a", "ab", "abc");
        Check.due("7: a under the root again", 0, ledger.moveProject(1));
        Ledgers.path(ledger, "a");
        Check.due("7: ab under a again", 0, ledger.moveProject(2));
        Check.dueOutcome("7: the path stays", "abc", Ledgers.pathOf(ledger, 3));
    }

    private static void movingAccounts() {
        AllotmentLedger ledger = Ledgers.withProjects("a", "ab", "abc", "x");
        ledger.makeFile(0, 2);
        ledger.makeFile(1, 3);
        ledger.makeFile(2, 1);
        ledger.write(0, 10);
        ledger.write(1, 100);
        ledger.write(2, 1);
        ledger.reserve(1, 1000);
        ledger.setLimits(2, 2, 5, 7, 1);
        ledger.setLimits(2, 4, 3, 4, 1);
        ledger.setLimits(2, 1, 500, -1, -1);
        ledger.setLimits(2, 0, 500, -1, -1);
        ledger.pass(10);
        Ledgers.path(ledger, "x");
        Check.due("7: nothing is barred", 2, ledger.moveProject(2));
        int[] used = {1111, 1, 1110, 1100, 1110};
        int[] files = {3, 1, 2, 1, 2};
        int[] grace = {38, -1, 38, -1, 48};
        for (int project = 0; project < 5; project++) {
            Check.due("7: used of " + project, used[project], ledger.used(2, project));
            Check.due("7: used by files of " + project, used[project], ledger.usedByFiles(2, project));
            Check.due("7: files of " + project, files[project], ledger.filesOf(2, project));
            Check.due("7: grace of " + project, grace[project], ledger.grace(2, project));
        }
        Check.due("7: limits go with the project", -4, ledger.write(0, 1));
    }

    private static void movingDeletedFiles() {
        AllotmentLedger ledger = Ledgers.withProjects("a", "ab", "x");
        ledger.makeFile(0, 2);
        ledger.makeFile(0, 2);
        ledger.write(0, 5);
        ledger.delete(0);
        Ledgers.path(ledger, "x");
        ledger.moveProject(2);
        Check.due("7: a deleted file is nowhere", 0, ledger.filesOf(2, 1));
        Check.due("7: nor where the project is then", 1, ledger.filesOf(2, 3));
    }

    private static void lettersOfPaths() {
        AllotmentLedger ledger = Ledgers.withProjects("a", "ab", "abc");
        Check.due("8: first letter", 'a', ledger.letterAt(3, 0));
        Check.due("8: second letter", 'b', ledger.letterAt(3, 1));
        Check.due("8: last letter", 'c', ledger.letterAt(3, 2));
        Check.due("8: behind the last", ' ', ledger.letterAt(3, 3));
        Check.due("8: far behind the last", ' ', ledger.letterAt(3, Integer.MAX_VALUE));
        Check.due("8: the root", ' ', ledger.letterAt(0, 0));
        Check.throwsIndex("8: place -1", () -> ledger.letterAt(3, -1));
        Check.throwsIndex("8: lowest place", () -> ledger.letterAt(0, Integer.MIN_VALUE));
        Check.throwsIndex("8: project 4", () -> ledger.letterAt(4, 0));
        Check.throwsIndex("8: project -1", () -> ledger.letterAt(-1, 0));
    }

    private static void countingProjects() {
        AllotmentLedger ledger = new AllotmentLedger();
        Check.due("9: the root", 1, ledger.projects());
        ledger.type('a');
        ledger.makeProject();
        Check.due("9: and a", 2, ledger.projects());
        Check.throwsState("9: a again", () -> ledger.makeProject());
        Check.due("9: still two", 2, ledger.projects());
    }
}
