/** The section "Terms", sentence by sentence; the promise beside each is the one by which it is asked. */
public final class TermsTest {
    private static final int USER = AllotmentLedger.USER;
    private static final int GROUP = AllotmentLedger.GROUP;
    private static final int PROJECT = AllotmentLedger.PROJECT;
    private static final int NONE = AllotmentLedger.NONE;

    /** The accounts of a file of user 5 in the deepest of nine projects, in the order in which they are asked. */
    private static final int[] DEEP_KINDS = {
        USER, GROUP, PROJECT, PROJECT, PROJECT, PROJECT, PROJECT, PROJECT, PROJECT, PROJECT, PROJECT};
    private static final int[] DEEP_NUMBERS = {5, 2, 8, 7, 6, 5, 4, 3, 2, 1, 0};

    public static void main(String[] args) {
        promise10GroupOfEachUser();
        promise17ClockFromZero();
        promise6RootIsAlwaysThere();
        promise19WithinByTheWholePath();
        promise10NumbersOfFiles();
        promise10SizeAtFirst();
        promise14NumbersOfReservations();
        promise18OpenReservationsAreUsed();
        promise18UsageOfAllItsAccounts();
        promise16NoLimitsAtFirst();
        promise21OverIsMoreThanSoft();
        promise21OverOnlyBySoft();
        promise21OverByEachCall();
        promise21OverNoMoreByEachCall();
        promise21OverSinceThenByEachCall();
        promise21OverAtHourZero();
        promise11GraceGoneAt48();
        promise22GraceGoneOfEachAccount();
        promise10GraceBarsNoFiles();
        promise11OrderOfHardLimits();
        promise11OrderOfGrace();
        promise11FirstOfTwoSorts();
        promise11OtherAccountsBarNothing();
        promise11LimitsOfFilesBarNoBlocks();
        promise10LimitsOfBlocksBarNoFiles();
        promise19BlocksAreNoFiles();
        promise11UpToTheHardLimit();
        promise11BeyondALaterLimit();
        Check.end();
    }

    private static AllotmentLedger withDeepFile() {
        AllotmentLedger ledger = Ledgers.withProjects(
                "a", "ab", "abc", "abcd", "abcde", "abcdef", "abcdefg", "abcdefgh");
        ledger.makeFile(5, 8);
        return ledger;
    }

    // "Users are numbered 0 to 5, groups 0 to 2; the user u is of the group u % 3."
    private static void promise10GroupOfEachUser() {
        int[] groups = {0, 1, 2, 0, 1, 2};
        for (int user = 0; user < 6; user++) {
            AllotmentLedger ledger = new AllotmentLedger();
            ledger.makeFile(user, 0);
            ledger.write(0, 9);
            for (int other = 0; other < 6; other++) {
                Check.due("10: files of user " + other, other == user ? 1 : 0, ledger.filesOf(USER, other));
                Check.due("18: used of user " + other, other == user ? 9 : 0, ledger.used(USER, other));
            }
            for (int group = 0; group < 3; group++) {
                Check.due("10: files of group " + group, group == groups[user] ? 1 : 0, ledger.filesOf(GROUP, group));
                Check.due("20: used of group " + group, group == groups[user] ? 9 : 0,
                        ledger.usedByFiles(GROUP, group));
            }
        }
    }

    // "The clock counts hours, from 0 on."
    private static void promise17ClockFromZero() {
        Check.due("17: the first hour", 1, new AllotmentLedger().pass(1));
        Check.due("17: the first 1000 hours", 1000, new AllotmentLedger().pass(1000));
    }

    // "The project of the empty path, the root, is always there."
    private static void promise6RootIsAlwaysThere() {
        AllotmentLedger ledger = new AllotmentLedger();
        Check.due("6: the root at first", 0, ledger.findProject());
        ledger.type('a');
        ledger.makeProject();
        ledger.type('b');
        ledger.back();
        ledger.back();
        Check.due("6: the root among others", 0, ledger.findProject());
        Check.due("10: a file in the root", 0, ledger.makeFile(0, 0));
    }

    // "a project is within another one if its path begins with the path of that one, itself included"
    private static void promise19WithinByTheWholePath() {
        AllotmentLedger ledger = Ledgers.withProjects("a", "ab", "aba", "abab", "b", "ba", "bab");
        ledger.makeFile(0, 2);
        int[] files = {1, 1, 1, 0, 0, 0, 0, 0};
        for (int project = 0; project < files.length; project++) {
            Check.due("19: files of " + Ledgers.pathOf(ledger, project), files[project],
                    ledger.filesOf(PROJECT, project));
        }
    }

    // "Files are numbered from 0 in the order in which they are made"
    private static void promise10NumbersOfFiles() {
        AllotmentLedger ledger = new AllotmentLedger();
        Check.due("10: the first one", 0, ledger.makeFile(0, 0));
        Check.due("10: the second one", 1, ledger.makeFile(0, 0));
        ledger.delete(1);
        Check.due("10: behind a deleted one", 2, ledger.makeFile(0, 0));
        ledger.setLimits(USER, 0, NONE, NONE, 2);
        Check.due("10: a barred one", -2, ledger.makeFile(0, 0));
        Check.due("10: behind a barred one", 3, ledger.makeFile(1, 0));
    }

    // "a size in blocks, 0 at first"
    private static void promise10SizeAtFirst() {
        AllotmentLedger ledger = new AllotmentLedger();
        ledger.makeFile(0, 0);
        Check.throwsArgument("10: it has no block", () -> ledger.write(0, -1));
        Check.due("10: it has 0 blocks", 0, ledger.write(0, 0));
        Check.due("10: it uses none", 0, ledger.delete(0));
    }

    // "Reservations are numbered from 0 in the order in which they are made"
    private static void promise14NumbersOfReservations() {
        AllotmentLedger ledger = new AllotmentLedger();
        ledger.makeFile(0, 0);
        ledger.makeFile(1, 0);
        Check.due("14: the first one", 0, ledger.reserve(1, 1));
        ledger.settle(0, 0);
        Check.due("14: behind a closed one", 1, ledger.reserve(0, 1));
        ledger.delete(0);
        Check.due("14: behind one that was given up", 2, ledger.reserve(1, 1));
    }

    // "an open one holds some blocks for a file. A file uses its blocks and those that open reservations hold for it."
    private static void promise18OpenReservationsAreUsed() {
        AllotmentLedger ledger = new AllotmentLedger();
        ledger.makeFile(0, 0);
        ledger.makeFile(0, 0);
        ledger.write(0, 100);
        ledger.reserve(0, 20);
        ledger.reserve(0, 3);
        ledger.reserve(1, 500);
        Check.due("18: both hold", 623, ledger.used(USER, 0));
        Check.due("20: both hold", 623, ledger.usedByFiles(USER, 0));
        ledger.settle(0, 0);
        Check.due("18: one holds yet", 603, ledger.used(USER, 0));
        Check.due("20: one holds yet", 603, ledger.usedByFiles(USER, 0));
        Check.due("12: one of them was its own", 103, ledger.delete(0));
        Check.due("18: the other file's holds yet", 500, ledger.used(USER, 0));
    }

    // "in the account of its owner, in that of the group of its owner, and in those of all projects that ..."
    private static void promise18UsageOfAllItsAccounts() {
        AllotmentLedger ledger = withDeepFile();
        ledger.write(0, 30);
        ledger.reserve(0, 4);
        for (int place = 0; place < DEEP_KINDS.length; place++) {
            Check.due("18: used at place " + place, 34, ledger.used(DEEP_KINDS[place], DEEP_NUMBERS[place]));
            Check.due("20: used at place " + place, 34, ledger.usedByFiles(DEEP_KINDS[place], DEEP_NUMBERS[place]));
            Check.due("19: files at place " + place, 1, ledger.filesOf(DEEP_KINDS[place], DEEP_NUMBERS[place]));
        }
    }

    // "An account has a soft and a hard limit of blocks, and one of files, at first none."
    private static void promise16NoLimitsAtFirst() {
        AllotmentLedger ledger = Ledgers.withProjects("a");
        for (int file = 0; file < 40; file++) {
            Check.due("16: no limit of files", file, ledger.makeFile(2, 1));
        }
        for (int call = 1; call <= 101; call++) {
            Check.due("16: no hard limit", 1000 * call, ledger.write(0, 1000));
        }
        Check.due("22: no limit at all", NONE, ledger.room(0));
        Check.due("16: no soft limit of the owner", NONE, ledger.grace(USER, 2));
        Check.due("16: no soft limit of the group", NONE, ledger.grace(GROUP, 2));
        Check.due("16: no soft limit of the project", NONE, ledger.grace(PROJECT, 1));
        Check.due("16: no soft limit of the root", NONE, ledger.grace(PROJECT, 0));
    }

    // "An account is over if it has a soft limit of blocks, and its blocks are more than that"
    private static void promise21OverIsMoreThanSoft() {
        for (int soft : new int[] {0, 1, 7, 999}) {
            AllotmentLedger ledger = new AllotmentLedger();
            ledger.makeFile(0, 0);
            ledger.setLimits(GROUP, 0, soft, NONE, NONE);
            ledger.write(0, soft);
            Check.due("21: as many as the soft limit", NONE, ledger.grace(GROUP, 0));
            ledger.write(0, 1);
            Check.due("21: one more", 48, ledger.grace(GROUP, 0));
        }
    }

    private static void promise21OverOnlyBySoft() {
        AllotmentLedger ledger = new AllotmentLedger();
        ledger.makeFile(0, 0);
        ledger.write(0, 9);
        ledger.setLimits(USER, 0, NONE, 0, 0);
        ledger.pass(100);
        Check.due("21: beyond the other limits it is not over", NONE, ledger.grace(USER, 0));
        Check.due("21: an account without limits is not", NONE, ledger.grace(PROJECT, 0));
    }

    /** Files 0 in a and 1 in x with 10 blocks each; a is at its soft limit; the clock stands at 5. */
    private static AllotmentLedger atSoftLimit() {
        AllotmentLedger ledger = Ledgers.withProjects("a", "x", "xy");
        ledger.makeFile(0, 1);
        ledger.makeFile(1, 3);
        ledger.write(0, 10);
        ledger.write(1, 10);
        ledger.setLimits(PROJECT, 1, 10, NONE, NONE);
        ledger.pass(5);
        return ledger;
    }

    // "it is over since the hour of the call behind which it was over and ahead of which it was not"
    private static void promise21OverByEachCall() {
        dueOver("write", ledger -> ledger.write(0, 1));
        dueOver("reserve", ledger -> ledger.reserve(0, 1));
        dueOver("moveFile", ledger -> ledger.moveFile(1, 1));
        dueOver("moveProject", ledger -> moveProject(ledger, 3, "a"));
        dueOver("setLimits", ledger -> Ledgers.limits(ledger, PROJECT, 1, 9, NONE, NONE));
    }

    private static long moveProject(AllotmentLedger ledger, int project, String target) {
        Ledgers.path(ledger, target);
        return ledger.moveProject(project);
    }

    private static void dueOver(String name, Refusals.Call call) {
        AllotmentLedger ledger = atSoftLimit();
        Check.due("21: not over ahead of " + name, NONE, ledger.grace(PROJECT, 1));
        call.on(ledger);
        Check.due("21: over since " + name, 48, ledger.grace(PROJECT, 1));
        ledger.pass(3);
        Check.due("21: 3 hours behind " + name, 45, ledger.grace(PROJECT, 1));
    }

    // "behind a call that leaves it not over it has to come to be so anew"
    private static void promise21OverNoMoreByEachCall() {
        dueOverNoMore("write", ledger -> ledger.write(0, -2), ledger -> ledger.write(0, 2));
        dueOverNoMore("settle", ledger -> ledger.settle(0, 0), ledger -> ledger.write(0, 2));
        dueOverNoMore("delete", ledger -> ledger.delete(0), ledger -> ledger.moveFile(2, 1));
        dueOverNoMore("moveFile", ledger -> ledger.moveFile(0, 2), ledger -> ledger.moveFile(0, 1));
        dueOverNoMore("moveProject", ledger -> moveProject(ledger, 4, ""), ledger -> moveProject(ledger, 4, "a"));
        dueOverNoMore("setLimits", ledger -> Ledgers.limits(ledger, PROJECT, 1, 14, NONE, NONE),
                ledger -> Ledgers.limits(ledger, PROJECT, 1, 13, NONE, NONE));
        dueOverNoMore("setLimits to none", ledger -> Ledgers.limits(ledger, PROJECT, 1, NONE, 5, NONE),
                ledger -> Ledgers.limits(ledger, PROJECT, 1, 12, NONE, NONE));
    }

    /** a is two blocks over its limit of 12 since hour 5, by blocks, by a reservation and by a project within it. */
    private static AllotmentLedger overSoftLimit() {
        AllotmentLedger ledger = atSoftLimit();
        Ledgers.path(ledger, "ab");
        ledger.makeProject();
        ledger.makeFile(2, 2);
        ledger.write(2, 100);
        ledger.makeFile(3, 4);
        ledger.write(3, 2);
        ledger.reserve(0, 2);
        ledger.setLimits(PROJECT, 1, 12, NONE, NONE);
        ledger.pass(20);
        return ledger;
    }

    private static void dueOverNoMore(String name, Refusals.Call less, Refusals.Call more) {
        AllotmentLedger ledger = overSoftLimit();
        Check.due("21: over ahead of " + name, 28, ledger.grace(PROJECT, 1));
        less.on(ledger);
        Check.due("21: not over behind " + name, NONE, ledger.grace(PROJECT, 1));
        ledger.pass(1);
        more.on(ledger);
        Check.due("21: over anew behind " + name, 48, ledger.grace(PROJECT, 1));
        // Nobody asks in between, and no hour passes: the call in between counts all the same.
        AllotmentLedger unasked = overSoftLimit();
        less.on(unasked);
        more.on(unasked);
        Check.due("21: over anew at once behind " + name, 48, unasked.grace(PROJECT, 1));
    }

    private static void promise21OverSinceThenByEachCall() {
        dueOverSinceThen("write of more", ledger -> ledger.write(0, 5));
        dueOverSinceThen("write of less", ledger -> ledger.write(0, -1));
        dueOverSinceThen("write of 0", ledger -> ledger.write(0, 0));
        dueOverSinceThen("reserve", ledger -> ledger.reserve(0, 5));
        dueOverSinceThen("settle", ledger -> ledger.settle(0, 2));
        dueOverSinceThen("settle of less", ledger -> ledger.settle(0, 1));
        dueOverSinceThen("makeFile", ledger -> ledger.makeFile(0, 1));
        dueOverSinceThen("moveFile within it", ledger -> ledger.moveFile(0, 4));
        dueOverSinceThen("moveFile to where it is", ledger -> ledger.moveFile(0, 1));
        dueOverSinceThen("moveProject of it", ledger -> moveProject(ledger, 1, "x"));
        dueOverSinceThen("moveProject to where it is", ledger -> moveProject(ledger, 1, ""));
        dueOverSinceThen("moveProject of one within it", ledger -> moveProject(ledger, 4, "a"));
        dueOverSinceThen("setLimits", ledger -> Ledgers.limits(ledger, PROJECT, 1, 13, 0, 0));
        dueOverSinceThen("setLimits of another", ledger -> Ledgers.limits(ledger, PROJECT, 2, 100, 0, 0));
        dueOverSinceThen("beginRecount", ledger -> ledger.beginRecount());
    }

    private static void dueOverSinceThen(String name, Refusals.Call call) {
        AllotmentLedger ledger = overSoftLimit();
        call.on(ledger);
        Check.due("21: over since then behind " + name, 28, ledger.grace(PROJECT, 1));
    }

    private static void promise21OverAtHourZero() {
        AllotmentLedger ledger = new AllotmentLedger();
        ledger.makeFile(0, 0);
        ledger.setLimits(USER, 0, 0, NONE, NONE);
        ledger.write(0, 1);
        Check.due("21: over since hour 0", 48, ledger.grace(USER, 0));
        ledger.pass(48);
        Check.due("21: gone at hour 48", 0, ledger.grace(USER, 0));
        Check.due("11: and bars", -2, ledger.write(0, 1));
    }

    // "Its grace is gone if it is over and 48 hours or more have passed since then."
    private static void promise11GraceGoneAt48() {
        int[] hours = {1, 47, 48, 49, 1000};
        for (int passed : hours) {
            AllotmentLedger ledger = new AllotmentLedger();
            ledger.makeFile(0, 0);
            ledger.pass(300);
            ledger.setLimits(USER, 0, 0, NONE, NONE);
            ledger.write(0, 1);
            ledger.pass(passed);
            Check.due("11: write behind " + passed, passed < 48 ? 2 : -2, ledger.write(0, 1));
            Check.due("14: reserve behind " + passed, passed < 48 ? 0 : -2, ledger.reserve(0, 1));
            Check.due("22: room behind " + passed, passed < 48 ? NONE : 0, ledger.room(0));
            Check.due("21: grace behind " + passed, Math.max(0, 48 - passed), ledger.grace(USER, 0));
        }
    }

    private static void promise22GraceGoneOfEachAccount() {
        for (int place = 0; place < DEEP_KINDS.length; place++) {
            AllotmentLedger ledger = withDeepFile();
            ledger.write(0, 10);
            ledger.setLimits(DEEP_KINDS[place], DEEP_NUMBERS[place], 9, 500, NONE);
            ledger.pass(47);
            Check.due("22: grace of an hour", 490, ledger.room(0));
            ledger.pass(1);
            Check.due("22: grace gone at place " + place, 0, ledger.room(0));
            Check.due("11: grace gone at place " + place, -2 - place, ledger.write(0, 1));
            Check.due("14: grace gone at place " + place, -2 - place, ledger.reserve(0, 1));
            Check.due("11: less is not barred", 9, ledger.write(0, -1));
            Check.due("22: not over", 491, ledger.room(0));
        }
    }

    // "an account bars more blocks, too, if its grace is gone": no files, and nothing that needs no more.
    private static void promise10GraceBarsNoFiles() {
        AllotmentLedger ledger = Ledgers.withProjects("a", "b");
        ledger.makeFile(0, 1);
        ledger.write(0, 10);
        ledger.reserve(0, 10);
        ledger.setLimits(USER, 0, 5, 5, NONE);
        ledger.setLimits(PROJECT, 2, 5, 5, 0);
        ledger.pass(48);
        Check.due("10: a file needs no blocks", 1, ledger.makeFile(0, 1));
        Check.due("11: 0 blocks are no more", 10, ledger.write(0, 0));
        Check.due("11: nor are less", 9, ledger.write(0, -1));
        Check.due("15: nor are those of a reservation", 14, ledger.settle(0, 5));
        Check.due("13: a move is not barred", 1, ledger.moveFile(0, 2));
    }

    // "first the owner, then the group, then the projects from the one of the file up to the root"
    private static void promise11OrderOfHardLimits() {
        for (int place = 0; place < DEEP_KINDS.length; place++) {
            AllotmentLedger ledger = withDeepFile();
            for (int later = place; later < DEEP_KINDS.length; later++) {
                ledger.setLimits(DEEP_KINDS[later], DEEP_NUMBERS[later], NONE, 10, 1);
            }
            Check.due("11: first that bars", -2 - place, ledger.write(0, 11));
            Check.due("14: first that bars", -2 - place, ledger.reserve(0, 11));
            Check.due("10: first that bars", -2 - place, ledger.makeFile(5, 8));
            Check.due("22: room", 10, ledger.room(0));
        }
    }

    private static void promise11OrderOfGrace() {
        AllotmentLedger ledger = withDeepFile();
        ledger.write(0, 10);
        for (int place = 0; place < DEEP_KINDS.length; place++) {
            ledger.setLimits(DEEP_KINDS[place], DEEP_NUMBERS[place], 9, NONE, NONE);
        }
        ledger.pass(48);
        for (int place = 0; place < DEEP_KINDS.length; place++) {
            Check.due("11: first whose grace is gone", -2 - place, ledger.write(0, 1));
            Check.due("14: first whose grace is gone", -2 - place, ledger.reserve(0, 1));
            ledger.setLimits(DEEP_KINDS[place], DEEP_NUMBERS[place], NONE, NONE, NONE);
        }
        Check.due("11: none bars", 11, ledger.write(0, 1));
    }

    // "The first account that bars is the barring one.": by a hard limit or by its grace, whichever it is.
    private static void promise11FirstOfTwoSorts() {
        AllotmentLedger ledger = Ledgers.withProjects("a");
        ledger.makeFile(0, 1);
        ledger.write(0, 10);
        ledger.setLimits(GROUP, 0, 9, NONE, NONE);
        ledger.setLimits(PROJECT, 1, NONE, 12, NONE);
        Check.due("11: the hard limit bars", -4, ledger.write(0, 3));
        ledger.pass(48);
        Check.due("11: the grace of one ahead of it bars", -3, ledger.write(0, 3));
        ledger.setLimits(USER, 0, NONE, 12, NONE);
        Check.due("11: a hard limit ahead of it bars", -2, ledger.write(0, 3));
        Check.due("11: fewer are barred by the grace", -3, ledger.write(0, 2));
    }

    // "What needs more blocks (or files) is asked against the accounts in which the file counts"
    private static void promise11OtherAccountsBarNothing() {
        AllotmentLedger ledger = Ledgers.withProjects("a", "ab", "abc", "x");
        ledger.makeFile(0, 2);
        int[][] others = {{USER, 1}, {USER, 3}, {GROUP, 1}, {GROUP, 2}, {PROJECT, 3}, {PROJECT, 4}};
        for (int[] other : others) {
            ledger.setLimits(other[0], other[1], 0, 0, 0);
        }
        Check.due("11: not barred", 1000, ledger.write(0, 1000));
        Check.due("14: not barred", 0, ledger.reserve(0, 1000));
        Check.due("10: not barred", 1, ledger.makeFile(0, 2));
        Check.due("22: no account bars any number", NONE, ledger.room(0));
    }

    // "blocks (or files)": each is asked against the limit of its own sort.
    private static void promise11LimitsOfFilesBarNoBlocks() {
        for (int files = 0; files <= 2; files++) {
            AllotmentLedger ledger = withDeepFile();
            for (int place = 0; place < DEEP_KINDS.length; place++) {
                ledger.setLimits(DEEP_KINDS[place], DEEP_NUMBERS[place], NONE, NONE, files);
            }
            Check.due("11: a limit of files bars no blocks", 1000, ledger.write(0, 1000));
            Check.due("14: nor reserved ones", 0, ledger.reserve(0, 1000));
            Check.due("22: nor any number of them", NONE, ledger.room(0));
        }
    }

    private static void promise10LimitsOfBlocksBarNoFiles() {
        AllotmentLedger ledger = withDeepFile();
        ledger.write(0, 10);
        for (int place = 0; place < DEEP_KINDS.length; place++) {
            ledger.setLimits(DEEP_KINDS[place], DEEP_NUMBERS[place], 0, 0, NONE);
        }
        Check.due("10: limits of blocks bar no files", 1, ledger.makeFile(5, 8));
        ledger.pass(48);
        Check.due("10: nor does a grace that is gone", 2, ledger.makeFile(5, 8));
    }

    // "the blocks that its files use, and the number of its files"
    private static void promise19BlocksAreNoFiles() {
        AllotmentLedger ledger = withDeepFile();
        ledger.makeFile(0, 0);
        ledger.write(0, 30);
        ledger.reserve(0, 20);
        ledger.reserve(0, 20);
        ledger.settle(0, 5);
        ledger.settle(1, 0);
        ledger.write(0, -35);
        for (int place = 0; place < DEEP_KINDS.length; place++) {
            int others = DEEP_KINDS[place] == PROJECT && DEEP_NUMBERS[place] == 0 ? 1 : 0;
            Check.due("19: files at place " + place, 1 + others,
                    ledger.filesOf(DEEP_KINDS[place], DEEP_NUMBERS[place]));
            Check.due("18: used at place " + place, 0, ledger.used(DEEP_KINDS[place], DEEP_NUMBERS[place]));
        }
    }

    // "An account bars it if the blocks (or files) would be more than its hard limit by that"
    private static void promise11UpToTheHardLimit() {
        for (int place = 0; place < DEEP_KINDS.length; place++) {
            AllotmentLedger ledger = withDeepFile();
            ledger.write(0, 5);
            ledger.setLimits(DEEP_KINDS[place], DEEP_NUMBERS[place], NONE, 20, 2);
            Check.due("11: one too many", -2 - place, ledger.write(0, 16));
            Check.due("11: up to one less", 19, ledger.write(0, 14));
            Check.due("14: one too many", -2 - place, ledger.reserve(0, 2));
            Check.due("14: up to the limit", 0, ledger.reserve(0, 1));
            Check.due("11: reserved ones count", -2 - place, ledger.write(0, 1));
            Check.due("10: up to the limit", 1, ledger.makeFile(5, 8));
            Check.due("10: one too many", -2 - place, ledger.makeFile(5, 8));
        }
    }

    // "An account that is beyond a limit that was set later bars nothing but what needs more."
    private static void promise11BeyondALaterLimit() {
        AllotmentLedger ledger = Ledgers.withProjects("a", "ab");
        ledger.makeFile(0, 2);
        ledger.makeFile(0, 2);
        ledger.write(0, 50);
        ledger.reserve(0, 20);
        ledger.setLimits(PROJECT, 1, NONE, 10, 0);
        Check.due("11: 0 blocks", 50, ledger.write(0, 0));
        Check.due("11: fewer blocks, yet beyond", 49, ledger.write(0, -1));
        Check.due("11: one block", -5, ledger.write(0, 1));
        Check.due("14: one block", -5, ledger.reserve(0, 1));
        Check.due("10: one file", -5, ledger.makeFile(0, 2));
        Check.due("22: no room", 0, ledger.room(0));
        Check.due("15: reserved ones", 69, ledger.settle(0, 20));
        Check.due("13: a move within it", 2, ledger.moveFile(0, 1));
        Check.due("12: a file less", 69, ledger.delete(0));
        Check.due("11: no more beyond", 10, ledger.write(1, 10));
    }
}
