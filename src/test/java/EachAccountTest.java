/**
 * Each call against each account: those of its file, those that the file comes to or leaves, and all others.
 * The promise beside each test is the one by which it is asked.
 */
public final class EachAccountTest {
    private static final int USER = AllotmentLedger.USER;
    private static final int GROUP = AllotmentLedger.GROUP;
    private static final int PROJECT = AllotmentLedger.PROJECT;
    private static final int NONE = AllotmentLedger.NONE;
    private static final int[] GROUP_OF_USER = {0, 1, 2, 0, 1, 2};
    private static final int PROJECTS = 6;

    private static final int TAKEN = 0;
    private static final int BEHIND = 1;
    private static final int[] IN_ABC = {0, 1, 2, 3};
    private static final int[] IN_XY = {0, 4, 5};
    /** The accounts of files 0 and 1, in the order in which they are asked. */
    private static final int[][] PLACES = {
        {USER, 4}, {GROUP, 1}, {PROJECT, 3}, {PROJECT, 2}, {PROJECT, 1}, {PROJECT, 0}};
    /** Those of them that a move to xy leaves, those that it comes to, and those that stay. */
    private static final int[][] LEFT = {{PROJECT, 3}, {PROJECT, 2}, {PROJECT, 1}};
    private static final int[][] COME_TO = {{PROJECT, 5}, {PROJECT, 4}};
    private static final int[][] KEPT = {{USER, 4}, {GROUP, 1}, {PROJECT, 0}};

    /** What is due of one file: the projects that it counts in are told, not found. */
    private static final class Due {
        final int user;
        int[] projects;
        int used;
        int counted;

        Due(int user, int[] projects, int used, int counted) {
            this.user = user;
            this.projects = projects;
            this.used = used;
            this.counted = counted;
        }

        boolean isIn(int kind, int number) {
            if (kind == PROJECT) {
                for (int project : projects) {
                    if (project == number) {
                        return true;
                    }
                }
                return false;
            }
            return number == (kind == USER ? user : GROUP_OF_USER[user]);
        }
    }

    public static void main(String[] args) {
        promise10MakeFile();
        promise11Write();
        promise12Delete();
        promise13MoveFile();
        promise14Reserve();
        promise15Settle();
        promise7MoveProject();
        promise24Recount();
        promise21OverByEachCall();
        promise21OverNoMoreByEachCall();
        promise21OverSinceThenBehindMoves();
        promise11BeyondEachLimit();
        promise11BeyondEachGrace();
        promise22SoftLimitsBarNothing();
        Check.end();
    }

    /**
     * Projects 1 to 5: a, ab, abc, x, xy. Files 0 and 1 of user 4 in abc, with 10 and 100 blocks, both with 5 more
     * reserved (0 and 1); file 2 of user 2 in xy with 1000 blocks. Of a recount file 0 is taken.
     */
    private static AllotmentLedger ready() {
        AllotmentLedger ledger = Ledgers.withProjects("a", "ab", "abc", "x", "xy");
        int[] users = {4, 4, 2};
        int[] projects = {3, 3, 5};
        int[] blocks = {10, 100, 1000};
        for (int file = 0; file < 3; file++) {
            ledger.makeFile(users[file], projects[file]);
            ledger.write(file, blocks[file]);
        }
        ledger.reserve(TAKEN, 5);
        ledger.reserve(BEHIND, 5);
        ledger.beginRecount();
        ledger.recount(1);
        return ledger;
    }

    private static Due[] dueOfReady() {
        return new Due[] {new Due(4, IN_ABC, 15, 15), new Due(4, IN_ABC, 105, 0), new Due(2, IN_XY, 1000, 0)};
    }

    private static void dueAccounts(String what, AllotmentLedger ledger, Due... files) {
        int[] numbers = {6, 3, PROJECTS};
        for (int kind = 0; kind < 3; kind++) {
            for (int number = 0; number < numbers[kind]; number++) {
                dueAccount(what + ", account " + kind + " " + number, ledger, kind, number, files);
            }
        }
    }

    private static void dueAccount(String what, AllotmentLedger ledger, int kind, int number, Due... files) {
        int used = 0;
        int counted = 0;
        int many = 0;
        for (Due file : files) {
            if (file.isIn(kind, number)) {
                used += file.used;
                counted += file.counted;
                many++;
            }
        }
        Check.due("18: used, " + what, used, ledger.used(kind, number));
        Check.due("19: files, " + what, many, ledger.filesOf(kind, number));
        Check.due("20: used by files, " + what, used, ledger.usedByFiles(kind, number));
        Check.due("25: counted, " + what, counted, ledger.counted(kind, number));
    }

    private static void change(Due due, int blocks, boolean taken) {
        due.used += blocks;
        due.counted += taken ? blocks : 0;
    }

    private static void promise10MakeFile() {
        AllotmentLedger ledger = ready();
        dueAccounts("as it is made ready", ledger, dueOfReady());
        Check.due("10: a file in abc", 3, ledger.makeFile(3, 3));
        Due[] files = dueOfReady();
        dueAccounts("a file is made", ledger, files[0], files[1], files[2], new Due(3, IN_ABC, 0, 0));
    }

    private static void promise11Write() {
        for (int blocks : new int[] {7, -7, 0}) {
            for (int file = TAKEN; file <= BEHIND; file++) {
                AllotmentLedger ledger = ready();
                Due[] files = dueOfReady();
                ledger.write(file, blocks);
                change(files[file], blocks, file == TAKEN);
                dueAccounts("written " + blocks + " into " + file, ledger, files);
            }
        }
    }

    private static void promise12Delete() {
        AllotmentLedger taken = ready();
        Due[] files = dueOfReady();
        Check.due("12: with what is reserved", 15, taken.delete(TAKEN));
        dueAccounts("the taken one is deleted", taken, files[1], files[2]);
        AllotmentLedger behind = ready();
        Check.due("12: with what is reserved", 105, behind.delete(BEHIND));
        dueAccounts("the one behind is deleted", behind, files[0], files[2]);
    }

    private static void promise13MoveFile() {
        for (int file = TAKEN; file <= BEHIND; file++) {
            AllotmentLedger ledger = ready();
            Due[] files = dueOfReady();
            Check.due("13: from abc", 3, ledger.moveFile(file, 5));
            files[file].projects = IN_XY;
            dueAccounts("moved to xy: " + file, ledger, files);
            Check.due("13: from xy", 5, ledger.moveFile(file, 2));
            files[file].projects = new int[] {0, 1, 2};
            dueAccounts("moved to ab: " + file, ledger, files);
        }
    }

    private static void promise14Reserve() {
        for (int file = TAKEN; file <= BEHIND; file++) {
            AllotmentLedger ledger = ready();
            Due[] files = dueOfReady();
            ledger.reserve(file, 30);
            change(files[file], 30, file == TAKEN);
            dueAccounts("reserved for " + file, ledger, files);
        }
    }

    private static void promise15Settle() {
        for (int written : new int[] {0, 2, 5}) {
            for (int file = TAKEN; file <= BEHIND; file++) {
                AllotmentLedger ledger = ready();
                Due[] files = dueOfReady();
                ledger.settle(file, written);
                change(files[file], written - 5, file == TAKEN);
                dueAccounts("settled with " + written + " for " + file, ledger, files);
            }
        }
    }

    private static void promise7MoveProject() {
        AllotmentLedger ledger = ready();
        Due[] files = dueOfReady();
        Ledgers.path(ledger, "xy");
        Check.due("7: ab and abc", 2, ledger.moveProject(2));
        files[0].projects = new int[] {0, 4, 5, 2, 3};
        files[1].projects = files[0].projects;
        dueAccounts("ab is moved under xy", ledger, files);
        Ledgers.path(ledger, "");
        Check.due("7: xy and what is in it", 3, ledger.moveProject(5));
        files[0].projects = new int[] {0, 5, 2, 3};
        files[1].projects = files[0].projects;
        files[2].projects = new int[] {0, 5};
        dueAccounts("xy is moved under the root", ledger, files);
    }

    private static void promise24Recount() {
        AllotmentLedger ledger = ready();
        Due[] files = dueOfReady();
        Check.due("24: file 1", 1, ledger.recount(1));
        files[1].counted = 105;
        dueAccounts("file 1 is taken", ledger, files);
        Check.due("24: file 2", 0, ledger.recount(1));
        files[2].counted = 1000;
        dueAccounts("file 2 is taken", ledger, files);
        Check.due("23: anew", 3, ledger.beginRecount());
        files[0].counted = 0;
        files[1].counted = 0;
        files[2].counted = 0;
        dueAccounts("begun anew", ledger, files);
    }

    private static void soft(AllotmentLedger ledger, int[] account, int soft) {
        ledger.setLimits(account[0], account[1], soft, NONE, NONE);
    }

    private static int used(AllotmentLedger ledger, int[] account) {
        return ledger.used(account[0], account[1]);
    }

    private static long moveProject(AllotmentLedger ledger, int project, String target) {
        Ledgers.path(ledger, target);
        return ledger.moveProject(project);
    }

    // "it is over since the hour of the call behind which it was over and ahead of which it was not"
    private static void promise21OverByEachCall() {
        for (int[] account : PLACES) {
            dueOver("write", account, ledger -> ledger.write(0, 1));
            dueOver("reserve", account, ledger -> ledger.reserve(0, 1));
            dueOver("setLimits", account,
                    ledger -> Ledgers.limits(ledger, account[0], account[1], used(ledger, account) - 1, NONE, NONE));
        }
        for (int[] account : COME_TO) {
            dueOver("moveFile", account, ledger -> ledger.moveFile(0, 5));
            dueOver("moveProject", account, ledger -> moveProject(ledger, 2, "xy"));
            dueOver("moveProject of abc alone", account, ledger -> moveProject(ledger, 3, "xy"));
        }
    }

    private static void dueOver(String name, int[] account, Refusals.Call call) {
        AllotmentLedger ledger = ready();
        soft(ledger, account, used(ledger, account));
        ledger.pass(5);
        String what = name + ", account " + account[0] + " " + account[1];
        Check.due("21: not over ahead of " + what, NONE, ledger.grace(account[0], account[1]));
        call.on(ledger);
        Check.due("21: over behind " + what, 48, ledger.grace(account[0], account[1]));
        ledger.pass(3);
        Check.due("21: 3 hours behind " + what, 45, ledger.grace(account[0], account[1]));
    }

    // "behind a call that leaves it not over it has to come to be so anew"
    private static void promise21OverNoMoreByEachCall() {
        for (int[] account : PLACES) {
            dueOverNoMore("write", account, ledger -> ledger.write(0, -1));
            dueOverNoMore("settle", account, ledger -> ledger.settle(0, 4));
            dueOverNoMore("delete", account, ledger -> ledger.delete(0));
            dueOverNoMore("setLimits", account,
                    ledger -> Ledgers.limits(ledger, account[0], account[1], used(ledger, account), NONE, NONE));
        }
        for (int[] account : LEFT) {
            dueOverNoMore("moveFile", account, ledger -> ledger.moveFile(0, 5));
        }
        dueOverNoMore("moveProject", new int[] {PROJECT, 1}, ledger -> moveProject(ledger, 2, "xy"));
        dueOverNoMore("moveProject of abc alone", new int[] {PROJECT, 1}, ledger -> moveProject(ledger, 3, "xy"));
        dueOverNoMore("moveProject of abc alone", new int[] {PROJECT, 2}, ledger -> moveProject(ledger, 3, "xy"));
    }

    private static void dueOverNoMore(String name, int[] account, Refusals.Call less) {
        AllotmentLedger ledger = over(account);
        String what = name + ", account " + account[0] + " " + account[1];
        Check.due("21: over ahead of " + what, 28, ledger.grace(account[0], account[1]));
        less.on(ledger);
        Check.due("21: not over behind " + what, NONE, ledger.grace(account[0], account[1]));
        ledger.pass(100);
        Check.due("21: not over long behind " + what, NONE, ledger.grace(account[0], account[1]));
        soft(ledger, account, 0);
        // A file that counts in the account, wherever the others are now.
        ledger.makeFile(4, account[0] == PROJECT ? account[1] : 0);
        ledger.write(3, 1);
        Check.due("21: over anew behind " + what, 48, ledger.grace(account[0], account[1]));
    }

    /** The account is over by one block since 20 hours. */
    private static AllotmentLedger over(int[] account) {
        AllotmentLedger ledger = ready();
        ledger.pass(5);
        soft(ledger, account, used(ledger, account) - 1);
        ledger.pass(20);
        return ledger;
    }

    // An account that a move leaves over was not to come to be so anew.
    private static void promise21OverSinceThenBehindMoves() {
        for (int[] account : KEPT) {
            dueSinceThen("moveFile", account, ledger -> ledger.moveFile(0, 5));
            dueSinceThen("moveProject", account, ledger -> moveProject(ledger, 2, "xy"));
            dueSinceThen("moveProject of a", account, ledger -> moveProject(ledger, 1, "x"));
        }
        for (int[] account : LEFT) {
            dueSinceThen("moveFile to where it is", account, ledger -> ledger.moveFile(0, 3));
            dueSinceThen("moveProject of a", account, ledger -> moveProject(ledger, 1, "xy"));
            dueSinceThen("moveProject to where it is", account, ledger -> moveProject(ledger, 2, "a"));
        }
    }

    private static void dueSinceThen(String name, int[] account, Refusals.Call call) {
        AllotmentLedger ledger = over(account);
        call.on(ledger);
        Check.due("21: over since then behind " + name + ", account " + account[0] + " " + account[1], 28,
                ledger.grace(account[0], account[1]));
    }

    // "An account that is beyond a limit that was set later bars nothing but what needs more."
    private static void promise11BeyondEachLimit() {
        for (int place = 0; place < PLACES.length; place++) {
            AllotmentLedger ledger = ready();
            ledger.setLimits(PLACES[place][0], PLACES[place][1], NONE, 3, 0);
            dueBarsWhatNeedsMore("beyond the limits of place " + place, place, ledger);
        }
    }

    // "an account bars more blocks, too, if its grace is gone"
    private static void promise11BeyondEachGrace() {
        for (int place = 0; place < PLACES.length; place++) {
            AllotmentLedger ledger = ready();
            ledger.setLimits(PLACES[place][0], PLACES[place][1], 3, NONE, 0);
            ledger.pass(48);
            dueBarsWhatNeedsMore("grace gone at place " + place, place, ledger);
        }
    }

    private static void dueBarsWhatNeedsMore(String what, int place, AllotmentLedger ledger) {
        Check.due("11: one block, " + what, -2 - place, ledger.write(0, 1));
        Check.due("14: one block, " + what, -2 - place, ledger.reserve(0, 1));
        Check.due("10: one file, " + what, -2 - place, ledger.makeFile(4, 3));
        Check.due("22: no room, " + what, 0, ledger.room(0));
        Check.due("11: no block, " + what, 10, ledger.write(0, 0));
        Check.due("11: a block less, " + what, 9, ledger.write(0, -1));
        Check.due("15: a reservation is written, " + what, 14, ledger.settle(0, 5));
        Check.due("13: a move, " + what, 3, ledger.moveFile(0, 5));
        Check.due("13: a move back, " + what, 5, ledger.moveFile(0, 3));
        Check.due("7: a move of its project, " + what, 2, moveProject(ledger, 2, "xy"));
        Check.due("12: a file less, " + what, 14, ledger.delete(0));
    }

    // "Returns the blocks; ... NONE if no account bars any number.": a soft limit alone bars none while grace lasts.
    private static void promise22SoftLimitsBarNothing() {
        for (int place = 0; place < PLACES.length; place++) {
            AllotmentLedger ledger = ready();
            soft(ledger, PLACES[place], 0);
            ledger.pass(47);
            String what = ", over at place " + place;
            Check.due("22: any number" + what, NONE, ledger.room(0));
            Check.due("11: not barred" + what, 1010, ledger.write(0, 1000));
            Check.due("14: not barred" + what, 2, ledger.reserve(0, 1000));
            Check.due("10: not barred" + what, 3, ledger.makeFile(4, 3));
        }
    }
}
