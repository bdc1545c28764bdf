/** Promises 1 to 9, each sentence that names a bound: just inside it, at it, the empty and the full state. */
public final class PathEdgesTest {
    private static final int USER = AllotmentLedger.USER;
    private static final int PROJECT = AllotmentLedger.PROJECT;
    private static final int NONE = AllotmentLedger.NONE;
    private static final String[] DEEP = {
        "a", "ab", "abc", "abcd", "abcde", "abcdef", "abcdefg", "abcdefgh"};

    public static void main(String[] args) {
        promise1RootAlone();
        promise1EmptyBuffer();
        promise1EachObjectIsItsOwn();
        promise2FirstAndLastLetter();
        promise2EighthLetter();
        promise3OneLetter();
        promise3EightLetters();
        promise3Empty();
        promise4Empty();
        promise4Full();
        promise4OtherCallsLeaveTheBuffer();
        promise5Numbers();
        promise5IsThere();
        promise5ParentIsNotThere();
        promise5ThereSinceAMove();
        promise5TwentyProjects();
        promise5EightLetters();
        promise6RootAndNone();
        promise6FullBuffer();
        promise7EightLetters();
        promise7NineLetters();
        promise7LettersOfTheDeepest();
        promise7ItsOwnPath();
        promise7AnothersPath();
        promise7WithinIt();
        promise7HowManyHaveAnotherPath();
        promise7AllButTheRoot();
        promise7NumbersStay();
        promise7NothingIsBarred();
        promise7LimitsGoWithIt();
        promise7LimitsOfFilesGoWithIt();
        promise7SoftLimitsGoWithIt();
        promise7LastProject();
        promise8LastLetterAndASpace();
        promise8EightLetters();
        promise8Root();
        promise9Counts();
        Check.end();
    }

    private static AllotmentLedger at(AllotmentLedger ledger, String buffer) {
        Ledgers.path(ledger, buffer);
        return ledger;
    }

    private static void duePaths(String what, AllotmentLedger ledger, String... paths) {
        for (int project = 0; project < paths.length; project++) {
            Check.dueOutcome(what + ", path of " + project, paths[project], Ledgers.pathOf(ledger, project));
        }
        Check.due(what + ", projects", paths.length, ledger.projects());
    }

    // "Creates a ledger with the root alone"
    private static void promise1RootAlone() {
        AllotmentLedger ledger = new AllotmentLedger();
        Check.due("1: the root is counted", 1, ledger.projects());
        Check.due("1: the root is found", 0, ledger.findProject());
        for (char letter = 'a'; letter <= 'z'; letter++) {
            Ledgers.path(ledger, Character.toString(letter));
            Check.due("1: no project " + letter, NONE, ledger.findProject());
        }
        Check.throwsIndex("1: no project 1", () -> ledger.letterAt(1, 0));
        Check.throwsIndex("1: no file 0", () -> ledger.delete(0));
        Check.due("1: no files to be taken", 0, ledger.beginRecount());
    }

    // "the buffer is empty"
    private static void promise1EmptyBuffer() {
        Check.due("1: no letters", 0, new AllotmentLedger().clearPath());
        Check.throwsState("1: no letter to take away", () -> new AllotmentLedger().back());
        Check.due("1: the first letter", 1, new AllotmentLedger().type('k'));
    }

    // "Creates a ledger": what is asked of another one, made behind it, changes nothing in it.
    private static void promise1EachObjectIsItsOwn() {
        AllotmentLedger one = Ledgers.withFourFiles();
        AllotmentLedger other = new AllotmentLedger();
        at(other, "q").makeProject();
        other.type('r');
        other.makeFile(0, 1);
        other.write(0, 77);
        other.reserve(0, 7);
        other.setLimits(USER, 0, 0, 0, 0);
        other.setLimits(PROJECT, 0, 0, 0, 0);
        other.pass(48);
        other.beginRecount();
        other.recount(40);
        String seen = Picture.of(one);
        Check.dueOutcome("1: one of two ledgers", Picture.of(Ledgers.withFourFiles()), seen);
        Check.due("18: used of the other", 84, other.used(PROJECT, 1));
        Check.due("25: counted of the other", 84, other.counted(USER, 0));
        Check.due("21: grace of the other", 0, other.grace(USER, 0));
        Check.due("4: letters of the other", 2, other.clearPath());
    }

    // "letter: a to z"
    private static void promise2FirstAndLastLetter() {
        AllotmentLedger ledger = new AllotmentLedger();
        for (char letter = 'a'; letter <= 'z'; letter++) {
            ledger.clearPath();
            Check.due("2: type " + letter, 1, ledger.type(letter));
        }
        Check.throwsArgument("2: the sign ahead of a", () -> new AllotmentLedger().type('`'));
        Check.throwsArgument("2: the sign behind z", () -> new AllotmentLedger().type('{'));
        Check.throwsArgument("2: the lowest sign", () -> new AllotmentLedger().type((char) 0));
        Check.throwsArgument("2: the highest sign", () -> new AllotmentLedger().type((char) 65535));
        Check.throwsArgument("2: a capital", () -> new AllotmentLedger().type('M'));
        Check.throwsArgument("2: a with bits above", () -> new AllotmentLedger().type((char) ('a' + 256)));
    }

    // "Throws IllegalStateException if it has 8 letters"
    private static void promise2EighthLetter() {
        AllotmentLedger ledger = at(new AllotmentLedger(), "aaaaaaa");
        Check.due("2: the eighth letter", 8, ledger.type('a'));
        Check.throwsState("2: the ninth letter", () -> ledger.type('a'));
        Check.throwsState("2: the ninth letter again", () -> ledger.type('z'));
        Check.throwsArgument("2: a wrong ninth letter", () -> ledger.type('{'));
        ledger.back();
        Check.due("2: the eighth letter anew", 8, ledger.type('z'));
    }

    private static void promise3OneLetter() {
        AllotmentLedger ledger = at(new AllotmentLedger(), "q");
        Check.due("3: back of one letter", 0, ledger.back());
        Check.due("3: the path is empty", 0, ledger.findProject());
    }

    // "Takes the last letter of the path in the buffer away."
    private static void promise3EightLetters() {
        AllotmentLedger ledger = at(Ledgers.withProjects(DEEP), "abcdefgh");
        for (int letters = 7; letters >= 0; letters--) {
            Check.due("3: back to " + letters, letters, ledger.back());
            Check.due("3: what is left of the path", letters, ledger.findProject());
        }
    }

    // "Throws IllegalStateException if it is empty"
    private static void promise3Empty() {
        AllotmentLedger ledger = at(new AllotmentLedger(), "ab");
        ledger.clearPath();
        Check.throwsState("3: emptied", () -> ledger.back());
        ledger.type('a');
        ledger.back();
        Check.throwsState("3: taken back", () -> ledger.back());
        Check.due("3: a letter behind it", 1, ledger.type('a'));
    }

    // "Returns how many letters it had."
    private static void promise4Empty() {
        AllotmentLedger ledger = new AllotmentLedger();
        Check.due("4: it had none", 0, ledger.clearPath());
        ledger.type('a');
        Check.due("4: it had one", 1, ledger.clearPath());
        Check.due("4: it is empty", 0, ledger.clearPath());
        Check.due("4: the root is its path", 0, ledger.findProject());
    }

    private static void promise4Full() {
        AllotmentLedger ledger = at(new AllotmentLedger(), "abcdefgh");
        Check.throwsState("4: full", () -> ledger.type('i'));
        Check.due("4: it had eight", 8, ledger.clearPath());
        Check.due("4: there is room again", 1, ledger.type('i'));
    }

    // "Other calls leave it as it is."
    private static void promise4OtherCallsLeaveTheBuffer() {
        dueBuffer("findProject", ledger -> ledger.findProject());
        dueBuffer("moveProject", ledger -> ledger.moveProject(4));
        dueBuffer("moveProject refused", ledger -> ledger.moveProject(1));
        dueBuffer("makeProject refused", ledger -> ledger.makeProject());
        dueBuffer("letterAt", ledger -> ledger.letterAt(2, 0));
        dueBuffer("projects", ledger -> ledger.projects());
        dueBuffer("makeFile", ledger -> ledger.makeFile(0, 1));
        dueBuffer("write", ledger -> ledger.write(0, 5));
        dueBuffer("delete", ledger -> ledger.delete(0));
        dueBuffer("moveFile", ledger -> ledger.moveFile(0, 1));
        dueBuffer("reserve", ledger -> ledger.reserve(0, 5));
        dueBuffer("settle", ledger -> ledger.settle(0, 1));
        dueBuffer("setLimits", ledger -> Ledgers.limits(ledger, PROJECT, 2, 0, 0, 0));
        dueBuffer("pass", ledger -> ledger.pass(1));
        dueBuffer("used", ledger -> ledger.used(PROJECT, 2));
        dueBuffer("filesOf", ledger -> ledger.filesOf(PROJECT, 2));
        dueBuffer("usedByFiles", ledger -> ledger.usedByFiles(PROJECT, 2));
        dueBuffer("grace", ledger -> ledger.grace(PROJECT, 2));
        dueBuffer("room", ledger -> ledger.room(0));
        dueBuffer("beginRecount", ledger -> ledger.beginRecount());
        dueBuffer("recount", ledger -> ledger.recount(1));
        dueBuffer("counted", ledger -> ledger.counted(PROJECT, 2));
        AllotmentLedger made = at(new AllotmentLedger(), "m");
        made.makeProject();
        Check.due("4: makeProject leaves the buffer", 1, made.findProject());
        Check.due("4: makeProject leaves its letter", 1, made.clearPath());
    }

    private static void dueBuffer(String name, Refusals.Call call) {
        AllotmentLedger ledger = Ledgers.withProjects("a", "ab", "abc", "b");
        ledger.makeFile(0, 2);
        ledger.reserve(0, 2);
        at(ledger, "ab");
        Check.outcome(() -> call.on(ledger));
        Check.due("4: " + name + " leaves the path", 2, ledger.findProject());
        Check.due("4: " + name + " leaves the letters", 2, ledger.clearPath());
    }

    // "projects are numbered from 1 in the order in which they are made, the root is 0"
    private static void promise5Numbers() {
        AllotmentLedger ledger = at(new AllotmentLedger(), "z");
        Check.due("5: the first one", 1, ledger.makeProject());
        Check.throwsState("5: a refused one", () -> ledger.makeProject());
        at(ledger, "a");
        Check.due("5: the second one", 2, ledger.makeProject());
        at(ledger, "zz");
        Check.due("5: the third one", 3, ledger.makeProject());
        duePaths("5: numbers", ledger, "", "z", "a", "zz");
    }

    // "Throws IllegalStateException if it is there"
    private static void promise5IsThere() {
        Check.throwsState("5: the root of a new one", () -> new AllotmentLedger().makeProject());
        for (String path : DEEP) {
            AllotmentLedger ledger = at(Ledgers.withProjects(DEEP), path);
            Check.throwsState("5: there is " + path, () -> ledger.makeProject());
        }
    }

    // "its parent is not"
    private static void promise5ParentIsNotThere() {
        for (String path : new String[] {"ba", "aab", "aaaa", "abca", "abab", "bbbbbbbb", "zzzzzzzz"}) {
            AllotmentLedger ledger = at(Ledgers.withProjects("a", "aa", "ab"), path);
            boolean parent = path.equals("aab");
            Check.dueOutcome("5: " + path, parent ? "4" : Refusals.STATE, Check.outcome(() -> ledger.makeProject()));
        }
    }

    private static void promise5ThereSinceAMove() {
        AllotmentLedger ledger = at(Ledgers.withProjects("a", "ab", "x"), "x");
        ledger.moveProject(2);
        at(ledger, "xb");
        Check.throwsState("5: there since the move", () -> ledger.makeProject());
        at(ledger, "abc");
        Check.throwsState("5: its parent is not there since the move", () -> ledger.makeProject());
        at(ledger, "xbc");
        Check.due("5: its parent is there since the move", 4, ledger.makeProject());
        at(ledger, "ab");
        Check.due("5: not there since the move", 5, ledger.makeProject());
    }

    // "there are 20 projects beside the root"
    private static void promise5TwentyProjects() {
        AllotmentLedger ledger = Ledgers.withProjects(DEEP);
        for (char letter = 'b'; letter <= 'l'; letter++) {
            at(ledger, Character.toString(letter)).makeProject();
        }
        Check.due("5: 19 beside the root", 20, ledger.projects());
        at(ledger, "zz");
        Check.throwsState("5: refused, with one yet to be made", () -> ledger.makeProject());
        at(ledger, "ll");
        Check.due("5: the twentieth", 20, ledger.makeProject());
        at(ledger, "lll");
        Check.throwsState("5: the twenty-first", () -> ledger.makeProject());
        at(ledger, "m");
        Check.throwsState("5: the twenty-first under the root", () -> ledger.makeProject());
        Check.due("6: it is not there", NONE, ledger.findProject());
        Check.due("9: 20 beside the root", 21, ledger.projects());
        at(ledger, "");
        Check.due("7: the twentieth is moved to l", 0, ledger.moveProject(19));
        Check.due("8: its last letter", 'l', ledger.letterAt(20, 1));
        Check.throwsIndex("8: no project 21", () -> ledger.letterAt(21, 0));
    }

    private static void promise5EightLetters() {
        AllotmentLedger ledger = at(Ledgers.withProjects(DEEP), "abcdefgi");
        Check.due("5: another one of eight letters", 9, ledger.makeProject());
        duePaths("5: eight letters", ledger, "", "a", "ab", "abc", "abcd", "abcde", "abcdef", "abcdefg", "abcdefgh",
                "abcdefgi");
    }

    // "Returns its number; NONE if it is not there."
    private static void promise6RootAndNone() {
        AllotmentLedger ledger = Ledgers.withProjects("a", "ab");
        String[] paths = {"", "a", "ab", "b", "aa", "ba", "aba", "abb", "bab", "z"};
        int[] numbers = {0, 1, 2, NONE, NONE, NONE, NONE, NONE, NONE, NONE};
        for (int i = 0; i < paths.length; i++) {
            at(ledger, paths[i]);
            Check.due("6: find '" + paths[i] + "'", numbers[i], ledger.findProject());
        }
    }

    private static void promise6FullBuffer() {
        AllotmentLedger ledger = at(Ledgers.withProjects(DEEP), "abcdefgh");
        Check.due("6: eight letters", 8, ledger.findProject());
        at(ledger, "abcdefgi");
        Check.due("6: eight letters, the last one is another", NONE, ledger.findProject());
        at(ledger, "zbcdefgh");
        Check.due("6: eight letters, the first one is another", NONE, ledger.findProject());
    }

    // "a path would have more than 8 letters"
    private static void promise7EightLetters() {
        AllotmentLedger ledger = Ledgers.withProjects("a", "ab", "abc", "abcd", "b", "bc", "bcd", "bcde");
        at(ledger, "abcd");
        Check.due("7: eight letters of one within it", 4, ledger.moveProject(5));
        duePaths("7: eight letters", ledger, "", "a", "ab", "abc", "abcd", "abcdb", "abcdbc", "abcdbcd", "abcdbcde");
        AllotmentLedger deep = at(Ledgers.withProjects("a", "ab", "abc", "abcd", "abcde", "abcdef", "abcdefg", "h"),
                "abcdefg");
        Check.due("7: eight letters of its own", 1, deep.moveProject(8));
        Check.dueOutcome("7: eight letters of its own", "abcdefgh", Ledgers.pathOf(deep, 8));
    }

    private static void promise7NineLetters() {
        AllotmentLedger ledger = Ledgers.withProjects("a", "ab", "abc", "abcd", "abcde", "b", "bc", "bcd", "bcde");
        at(ledger, "abcde");
        Check.throwsState("7: nine letters of one within it", () -> ledger.moveProject(6));
        Check.due("7: but eight of another", 3, ledger.moveProject(7));
        AllotmentLedger deep = at(Ledgers.withProjects("a", "ab", "abc", "abcd", "abcde", "abcdef", "abcdefg",
                "abcdefgh", "i"), "abcdefgh");
        Check.throwsState("7: nine letters of its own", () -> deep.moveProject(9));
        Check.due("7: up to where they are", 7, at(deep, "").moveProject(2));
        Check.dueOutcome("7: seven letters are left", "bcdefgh", Ledgers.pathOf(deep, 8));
    }

    private static void promise7LettersOfTheDeepest() {
        AllotmentLedger ledger = Ledgers.withProjects(
                "a", "ab", "abc", "abcd", "x", "xy", "xyz", "xyp", "xypq", "xypqr");
        at(ledger, "abcd");
        Check.throwsState("7: the deepest is not the last of its parent", () -> ledger.moveProject(5));
        Check.due("7: without its first letter", 5, ledger.moveProject(6));
        duePaths("7: moved", ledger, "", "a", "ab", "abc", "abcd", "x", "abcdy", "abcdyz", "abcdyp", "abcdypq",
                "abcdypqr");
        at(ledger, "x");
        Check.throwsState("7: under x nine letters would be", () -> ledger.moveProject(1));
        Check.due("7: but not if the first letter goes", 8, ledger.moveProject(2));
        Check.dueOutcome("7: the deepest then", "xbcdypqr", Ledgers.pathOf(ledger, 10));
    }

    // "its new path is that of another project (its own is none)"
    private static void promise7ItsOwnPath() {
        AllotmentLedger ledger = at(Ledgers.withProjects(DEEP), "abcdefg");
        Check.due("7: its own path of eight letters", 0, ledger.moveProject(8));
        Check.due("7: its own path with others within it", 0, at(ledger, "").moveProject(1));
        duePaths("7: none has another path", ledger, "", "a", "ab", "abc", "abcd", "abcde", "abcdef", "abcdefg",
                "abcdefgh");
    }

    private static void promise7AnothersPath() {
        AllotmentLedger ledger = at(Ledgers.withProjects("a", "ac", "b", "bc", "c"), "b");
        Check.throwsState("7: bc is there", () -> ledger.moveProject(2));
        Check.throwsState("7: bc is there for c, too", () -> ledger.moveProject(5));
        at(ledger, "");
        Check.throwsState("7: c is there", () -> ledger.moveProject(2));
        at(ledger, "c");
        Check.due("7: cc is not there", 1, ledger.moveProject(2));
        at(ledger, "a");
        Check.due("7: ac is there no more", 1, ledger.moveProject(4));
        duePaths("7: moved", ledger, "", "a", "cc", "b", "ac", "c");
    }

    // "that project is within it"
    private static void promise7WithinIt() {
        AllotmentLedger ledger = Ledgers.withProjects("a", "ab", "abc", "aa", "b");
        for (String path : new String[] {"a", "ab", "abc", "aa"}) {
            at(ledger, path);
            Check.throwsState("7: a under " + path, () -> ledger.moveProject(1));
        }
        at(ledger, "aa");
        Check.due("7: beside it is not within it", 2, ledger.moveProject(2));
        at(ledger, "b");
        Check.due("7: nor is another one", 4, ledger.moveProject(1));
        duePaths("7: moved", ledger, "", "ba", "baab", "baabc", "baa", "b");
    }

    // "Returns how many projects have another path then."
    private static void promise7HowManyHaveAnotherPath() {
        int[] many = {8, 7, 6, 5, 4, 3, 2, 1};
        for (int project = 2; project <= 8; project++) {
            AllotmentLedger ledger = Ledgers.withProjects(DEEP);
            Check.due("7: moved to the root: " + project, many[project - 1], ledger.moveProject(project));
            Check.due("7: again", 0, ledger.moveProject(project));
        }
    }

    private static void promise7AllButTheRoot() {
        AllotmentLedger ledger = new AllotmentLedger();
        String[] paths = {"a", "b", "bc", "bcd", "bd", "be", "bf", "bg", "bh", "bi", "bj", "bk", "bl", "bm", "bn", "bo",
            "bp", "bq", "br", "bs"};
        for (String path : paths) {
            at(ledger, path).makeProject();
        }
        Check.due("7: full, under a", 19, at(ledger, "a").moveProject(2));
        Check.due("7: the last of them", 20, at(ledger, "abs").findProject());
        Check.due("7: full, back under the root", 19, at(ledger, "").moveProject(2));
        Check.due("7: the last of them is back", 20, at(ledger, "bs").findProject());
    }

    private static void promise7NumbersStay() {
        AllotmentLedger ledger = at(Ledgers.withProjects("a", "ab", "b"), "b");
        ledger.makeFile(0, 2);
        ledger.moveProject(2);
        Check.due("7: found by its new path", 2, at(ledger, "bb").findProject());
        Check.due("7: not found by its old one", NONE, at(ledger, "ab").findProject());
        Check.due("7: its file is there yet", 2, ledger.moveFile(0, 0));
    }

    // "nothing is barred"
    private static void promise7NothingIsBarred() {
        AllotmentLedger ledger = Ledgers.withProjects("a", "ab", "x", "xy");
        ledger.makeFile(0, 2);
        ledger.makeFile(0, 4);
        ledger.write(0, 10);
        ledger.write(1, 10);
        ledger.setLimits(PROJECT, 3, 5, 10, 1);
        ledger.setLimits(PROJECT, 4, 5, 10, 1);
        ledger.setLimits(USER, 0, 0, 0, 0);
        ledger.pass(48);
        Check.due("7: beyond each limit of xy", 1, at(ledger, "xy").moveProject(2));
        Check.due("18: used of xy", 20, ledger.used(PROJECT, 4));
        Check.due("19: files of x", 2, ledger.filesOf(PROJECT, 3));
        Check.due("18: a has none left", 0, ledger.used(PROJECT, 1));
        Check.due("18: the root's stay", 20, ledger.used(PROJECT, 0));
        Check.due("18: the owner's stay", 20, ledger.used(USER, 0));
    }

    // "Limits go with the projects"
    private static void promise7LimitsGoWithIt() {
        AllotmentLedger ledger = Ledgers.withProjects("a", "ab", "abc", "x");
        ledger.makeFile(0, 3);
        ledger.makeFile(0, 4);
        ledger.setLimits(PROJECT, 2, NONE, 30, NONE);
        ledger.setLimits(PROJECT, 3, NONE, 40, NONE);
        ledger.setLimits(PROJECT, 1, NONE, 20, NONE);
        Check.due("22: room in abc", 20, ledger.room(0));
        at(ledger, "x").moveProject(2);
        Check.due("22: room in xbc", 30, ledger.room(0));
        Check.due("11: xb bars", -5, ledger.write(0, 31));
        Check.due("22: room in x", NONE, ledger.room(1));
        at(ledger, "").moveProject(3);
        Check.due("22: room in c", 40, ledger.room(0));
        at(ledger, "a").moveProject(3);
        Check.due("11: a bars again", -5, ledger.write(0, 21));
    }

    private static void promise7LimitsOfFilesGoWithIt() {
        AllotmentLedger ledger = Ledgers.withProjects("a", "ab", "abc", "x");
        ledger.makeFile(0, 3);
        int[] most = {NONE, 4, 3, 2, 1};
        for (int project = 1; project < most.length; project++) {
            ledger.setLimits(PROJECT, project, NONE, NONE, most[project]);
        }
        at(ledger, "x").moveProject(2);
        Check.due("10: x bars in xbc", -6, ledger.makeFile(1, 3));
        ledger.setLimits(PROJECT, 4, NONE, NONE, NONE);
        Check.due("10: a second one in xbc", 1, ledger.makeFile(1, 3));
        Check.due("10: xbc bars a third one", -4, ledger.makeFile(1, 3));
        Check.due("10: a third one in xb", 2, ledger.makeFile(1, 2));
        Check.due("10: xb bars a fourth one", -4, ledger.makeFile(1, 2));
        Check.due("10: x bars none", 3, ledger.makeFile(1, 4));
        for (int file = 4; file < 8; file++) {
            Check.due("10: a has none of them", file, ledger.makeFile(1, 1));
        }
        Check.due("10: a bars a fifth one", -4, ledger.makeFile(1, 1));
    }

    private static void promise7SoftLimitsGoWithIt() {
        AllotmentLedger ledger = Ledgers.withProjects("a", "ab", "abc", "x");
        ledger.makeFile(0, 3);
        for (int project = 1; project <= 4; project++) {
            ledger.setLimits(PROJECT, project, 10 * project, NONE, NONE);
        }
        at(ledger, "x").moveProject(2);
        int[] overAt = {0, 0, 21, 31, 41};
        for (int blocks : new int[] {20, 21, 30, 31, 40, 41}) {
            ledger.write(0, blocks - ledger.used(PROJECT, 3));
            for (int project = 2; project <= 4; project++) {
                Check.due("21: of project " + project + " with " + blocks, blocks >= overAt[project] ? 48 : NONE,
                        ledger.grace(PROJECT, project));
            }
            Check.due("21: of a", NONE, ledger.grace(PROJECT, 1));
        }
        ledger.moveFile(0, 1);
        Check.due("21: a has its own yet", 48, ledger.grace(PROJECT, 1));
    }

    // "Throws IndexOutOfBoundsException if there is no such project"
    private static void promise7LastProject() {
        AllotmentLedger ledger = Ledgers.withProjects("a", "b");
        at(ledger, "a");
        Check.due("7: the last project", 1, ledger.moveProject(2));
        Check.throwsIndex("7: the one behind it", () -> ledger.moveProject(3));
        Check.throwsIndex("7: the one ahead of the root", () -> ledger.moveProject(-1));
        at(ledger, "qq");
        Check.throwsIndex("7: none, and a path of none", () -> ledger.moveProject(3));
        Check.throwsState("7: the root, and a path of none", () -> ledger.moveProject(0));
        AllotmentLedger alone = new AllotmentLedger();
        Check.throwsState("7: the root alone", () -> alone.moveProject(0));
        Check.throwsIndex("7: none beside it", () -> alone.moveProject(1));
    }

    // "Returns the letter; a space if the path does not have so many."
    private static void promise8LastLetterAndASpace() {
        AllotmentLedger ledger = Ledgers.withProjects("a", "ab");
        Check.due("8: the only letter", 'a', ledger.letterAt(1, 0));
        Check.due("8: behind the only letter", ' ', ledger.letterAt(1, 1));
        Check.due("8: the last letter", 'b', ledger.letterAt(2, 1));
        Check.due("8: behind the last letter", ' ', ledger.letterAt(2, 2));
        Check.due("8: the highest place", ' ', ledger.letterAt(2, Integer.MAX_VALUE));
        Check.throwsIndex("8: below 0", () -> ledger.letterAt(2, -1));
        Check.throwsIndex("8: behind the last project", () -> ledger.letterAt(3, 0));
    }

    private static void promise8EightLetters() {
        AllotmentLedger ledger = Ledgers.withProjects(DEEP);
        for (int place = 0; place < 8; place++) {
            Check.due("8: letter of eight", "abcdefgh".charAt(place), ledger.letterAt(8, place));
        }
        Check.due("8: behind eight", ' ', ledger.letterAt(8, 8));
        Check.due("8: two behind eight", ' ', ledger.letterAt(8, 9));
    }

    private static void promise8Root() {
        AllotmentLedger ledger = new AllotmentLedger();
        Check.due("8: no letter of the root", ' ', ledger.letterAt(0, 0));
        Check.due("8: far behind", ' ', ledger.letterAt(0, Integer.MAX_VALUE));
        Check.throwsIndex("8: below 0", () -> ledger.letterAt(0, -1));
        Check.throwsIndex("8: no project 1", () -> ledger.letterAt(1, 0));
        Check.throwsIndex("8: no project -1", () -> ledger.letterAt(-1, 0));
    }

    // "Returns how many projects there are, the root counted."
    private static void promise9Counts() {
        AllotmentLedger ledger = new AllotmentLedger();
        Check.due("9: the root alone", 1, ledger.projects());
        for (int project = 1; project <= 20; project++) {
            at(ledger, Character.toString((char) ('a' + project))).makeProject();
            Check.due("9: beside the root", project + 1, ledger.projects());
        }
        Check.due("9: a move counts none", 1, at(ledger, "b").moveProject(20));
        Check.due("9: behind a move", 21, ledger.projects());
    }
}
