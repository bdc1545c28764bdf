import java.util.ArrayList;

/**
 * A ledger of quotas for a store of files: users, groups and a tree of projects have limits of
 * blocks and files. ../shared/DOC.md says, promise by promise, what each call does.
 */
public final class AllotmentLedger {
    public static final int NONE = -1;
    public static final int USER = 0, GROUP = 1, PROJECT = 2;

    private static final int USERS = 6;
    private static final int GROUPS = 3;
    private static final int MOST_LETTERS = 8;
    private static final int MOST_PROJECTS = 21; // the root counted
    private static final int MOST_FILES = 40;
    private static final int MOST_RESERVATIONS = 30;
    private static final int MOST_BLOCKS = 1000; // in one call
    private static final int HIGHEST_BLOCK_LIMIT = 100000;
    private static final int HIGHEST_FILE_LIMIT = 100;
    private static final int MOST_HOURS = 1000; // in one call
    private static final int LAST_HOUR = 100000;
    private static final int GRACE_HOURS = 48;

    /** What counts for one user, one group or one project, and its limits. */
    private static final class Account {
        int softLimit = NONE;
        int hardLimit = NONE;
        int fileLimit = NONE;
        int usedBlocks = 0;
        int files = 0;
        int countedBlocks = 0;
        boolean over = false;
        int overSince = 0;

        void add(int blocks, int moreFiles) {
            usedBlocks += blocks;
            files += moreFiles;
        }

        void noteOver(int clock) {
            boolean overNow = softLimit != NONE && usedBlocks > softLimit;
            if (overNow && !over) {
                overSince = clock;
            }
            over = overNow;
        }

        int graceLeft(int clock) {
            if (!over) {
                return NONE;
            }
            return Math.max(0, GRACE_HOURS - (clock - overSince));
        }

        /** How many blocks more it would let pass; NONE if any number. */
        int blocksLeft(int clock) {
            if (graceLeft(clock) == 0) {
                return 0;
            }
            return hardLimit == NONE ? NONE : Math.max(0, hardLimit - usedBlocks);
        }

        boolean bars(int moreBlocks, int moreFiles, int clock) {
            int left = blocksLeft(clock);
            // An account beyond its limits lets pass what needs no more.
            boolean barsBlocks = moreBlocks > 0 && left != NONE && moreBlocks > left;
            boolean barsFiles = moreFiles > 0 && fileLimit != NONE && files + moreFiles > fileLimit;
            return barsBlocks || barsFiles;
        }
    }

    /** A project knows its parent and the last letter of its path, so a move changes one parent. */
    private static final class Project {
        final int number;
        final char letter;
        final Account account = new Account();
        Project parent;

        Project(int number, Project parent, char letter) {
            this.number = number;
            this.parent = parent;
            this.letter = letter;
        }

        int letters() {
            int count = 0;
            for (Project above = parent; above != null; above = above.parent) {
                count++;
            }
            return count;
        }

        boolean isWithin(Project other) {
            for (Project at = this; at != null; at = at.parent) {
                if (at == other) {
                    return true;
                }
            }
            return false;
        }
    }

    private static final class StoredFile {
        final int number;
        final Account owner;
        final Account group;
        Project project;
        int blocks = 0;
        boolean deleted = false;

        StoredFile(int number, Account owner, Account group, Project project) {
            this.number = number;
            this.owner = owner;
            this.group = group;
            this.project = project;
        }
    }

    private static final class Reservation {
        final StoredFile file;
        final int blocks;
        boolean open = true;

        Reservation(StoredFile file, int blocks) {
            this.file = file;
            this.blocks = blocks;
        }
    }

    private final ArrayList<Account> users = new ArrayList<Account>();
    private final ArrayList<Account> groups = new ArrayList<Account>();
    private final ArrayList<Project> tree = new ArrayList<Project>();
    private final ArrayList<StoredFile> store = new ArrayList<StoredFile>();
    private final ArrayList<Reservation> reservations = new ArrayList<Reservation>();
    private final Project root;
    private final StringBuilder path = new StringBuilder();
    // Filled anew by accountsOf and used again, so that calls make no lists.
    private final ArrayList<Account> accountRow = new ArrayList<Account>();
    private int clock = 0;
    private boolean recountBegun = false;
    private int takenFiles = 0;

    public AllotmentLedger() {
        for (int user = 0; user < USERS; user++) {
            users.add(new Account());
        }
        for (int group = 0; group < GROUPS; group++) {
            groups.add(new Account());
        }
        root = new Project(0, null, ' ');
        tree.add(root);
    }

    // ---- paths and projects

    public int type(char letter) throws IllegalArgumentException, IllegalStateException {
        if (letter < 'a' || letter > 'z') {
            throw new IllegalArgumentException("the letter is not one of a to z");
        }
        if (path.length() >= MOST_LETTERS) {
            throw new IllegalStateException("the path has all its letters");
        }
        path.append(letter);
        return path.length();
    }

    public int back() throws IllegalStateException {
        if (path.length() == 0) {
            throw new IllegalStateException("the path is empty");
        }
        path.setLength(path.length() - 1);
        return path.length();
    }

    public int clearPath() {
        int letters = path.length();
        path.setLength(0);
        return letters;
    }

    public int makeProject() throws IllegalStateException {
        int letters = path.length();
        if (letters == 0 || projectOfPath(letters) != null) {
            throw new IllegalStateException("the project is there");
        }
        Project parent = projectOfPath(letters - 1);
        if (parent == null) {
            throw new IllegalStateException("the parent is not there");
        }
        if (tree.size() >= MOST_PROJECTS) {
            throw new IllegalStateException("there are all the projects that can be");
        }
        Project made = new Project(tree.size(), parent, path.charAt(letters - 1));
        tree.add(made);
        return made.number;
    }

    public int findProject() {
        Project found = projectOfPath(path.length());
        return found == null ? NONE : found.number;
    }

    public int moveProject(int project) throws IndexOutOfBoundsException, IllegalStateException {
        Project moved = projectOfNumber(project);
        Project target = projectOfPath(path.length());
        if (target == null || !canMove(moved, target)) {
            throw new IllegalStateException("the project cannot be moved there");
        }
        if (moved.parent == target) {
            return 0;
        }
        chargeFilesWithin(moved, -1);
        moved.parent = target;
        chargeFilesWithin(moved, 1);
        noteOverAccounts();
        return projectsWithin(moved);
    }

    public char letterAt(int project, int place) throws IndexOutOfBoundsException {
        Project at = projectOfNumber(project);
        if (place < 0) {
            throw new IndexOutOfBoundsException("the place is below 0");
        }
        int last = at.letters() - 1;
        if (place > last) {
            return ' ';
        }
        for (int i = last; i > place && at.parent != null; i--) {
            at = at.parent;
        }
        return at.letter;
    }

    public int projects() {
        return tree.size();
    }

    // ---- files

    public int makeFile(int user, int project) throws IndexOutOfBoundsException, IllegalStateException {
        Account owner = accountOf(USER, user);
        Account group = accountOf(GROUP, user % GROUPS);
        Project home = projectOfNumber(project);
        if (store.size() >= MOST_FILES) {
            throw new IllegalStateException("there are all the files that can be");
        }
        StoredFile file = new StoredFile(store.size(), owner, group, home);
        int barring = barringPlace(file, 0, 1);
        if (barring != NONE) {
            return barredAnswer(barring);
        }
        store.add(file);
        charge(file, 0, 1);
        return file.number;
    }

    public int write(int file, int blocks) throws IndexOutOfBoundsException, IllegalArgumentException {
        StoredFile written = liveFile(file);
        if (blocks < -MOST_BLOCKS || blocks > MOST_BLOCKS || written.blocks + blocks < 0) {
            throw new IllegalArgumentException("blocks is out of range");
        }
        int barring = barringPlace(written, blocks, 0);
        if (barring != NONE) {
            return barredAnswer(barring);
        }
        written.blocks += blocks;
        charge(written, blocks, 0);
        noteOverAccounts();
        return written.blocks;
    }

    public int delete(int file) throws IndexOutOfBoundsException {
        StoredFile gone = liveFile(file);
        int blocks = blocksUsedBy(gone);
        charge(gone, -blocks, -1);
        gone.deleted = true;
        for (int i = 0; i < reservations.size(); i++) {
            Reservation reservation = reservations.get(i);
            if (reservation.file == gone) {
                reservation.open = false;
            }
        }
        noteOverAccounts();
        return blocks;
    }

    public int moveFile(int file, int project) throws IndexOutOfBoundsException {
        StoredFile moved = liveFile(file);
        Project target = projectOfNumber(project);
        Project before = moved.project;
        int blocks = blocksUsedBy(moved);
        charge(moved, -blocks, -1);
        moved.project = target;
        charge(moved, blocks, 1);
        noteOverAccounts();
        return before.number;
    }

    public int reserve(int file, int blocks)
            throws IndexOutOfBoundsException, IllegalArgumentException, IllegalStateException {
        StoredFile holder = liveFile(file);
        if (blocks < 1 || blocks > MOST_BLOCKS) {
            throw new IllegalArgumentException("blocks is out of range");
        }
        if (reservations.size() >= MOST_RESERVATIONS) {
            throw new IllegalStateException("there are all the reservations that can be");
        }
        int barring = barringPlace(holder, blocks, 0);
        if (barring != NONE) {
            return barredAnswer(barring);
        }
        reservations.add(new Reservation(holder, blocks));
        charge(holder, blocks, 0);
        noteOverAccounts();
        return reservations.size() - 1;
    }

    public int settle(int reservation, int blocks) throws IndexOutOfBoundsException, IllegalArgumentException {
        if (reservation < 0 || reservation >= reservations.size() || !reservations.get(reservation).open) {
            throw new IndexOutOfBoundsException("no such open reservation");
        }
        Reservation settled = reservations.get(reservation);
        if (blocks < 0 || blocks > settled.blocks) {
            throw new IllegalArgumentException("blocks is out of range");
        }
        settled.open = false;
        settled.file.blocks += blocks;
        charge(settled.file, blocks - settled.blocks, 0);
        noteOverAccounts();
        return settled.file.blocks;
    }

    // ---- limits and time

    public void setLimits(int kind, int number, int soft, int hard, int files)
            throws IndexOutOfBoundsException, IllegalArgumentException {
        Account account = accountOf(kind, number);
        if (!isLimit(soft, HIGHEST_BLOCK_LIMIT) || !isLimit(hard, HIGHEST_BLOCK_LIMIT)
                || !isLimit(files, HIGHEST_FILE_LIMIT)) {
            throw new IllegalArgumentException("a limit is out of range");
        }
        account.softLimit = soft;
        account.hardLimit = hard;
        account.fileLimit = files;
        account.noteOver(clock);
    }

    public int pass(int hours) throws IllegalArgumentException, IllegalStateException {
        if (hours < 1 || hours > MOST_HOURS) {
            throw new IllegalArgumentException("hours is out of range");
        }
        if (clock + hours > LAST_HOUR) {
            throw new IllegalStateException("the clock would be beyond its last hour");
        }
        clock += hours;
        return clock;
    }

    public int used(int kind, int number) throws IndexOutOfBoundsException {
        return accountOf(kind, number).usedBlocks;
    }

    public int filesOf(int kind, int number) throws IndexOutOfBoundsException {
        return accountOf(kind, number).files;
    }

    public int usedByFiles(int kind, int number) throws IndexOutOfBoundsException {
        Account account = accountOf(kind, number);
        int blocks = 0;
        for (int i = 0; i < store.size(); i++) {
            StoredFile file = store.get(i);
            if (!file.deleted && countsIn(file, account)) {
                blocks += blocksUsedBy(file);
            }
        }
        return blocks;
    }

    public int grace(int kind, int number) throws IndexOutOfBoundsException {
        return accountOf(kind, number).graceLeft(clock);
    }

    public int room(int file) throws IndexOutOfBoundsException {
        ArrayList<Account> accounts = accountsOf(liveFile(file));
        int least = NONE;
        for (int i = 0; i < accounts.size(); i++) {
            int left = accounts.get(i).blocksLeft(clock);
            if (left != NONE && (least == NONE || left < least)) {
                least = left;
            }
        }
        return least;
    }

    // ---- recount

    public int beginRecount() {
        recountBegun = true;
        takenFiles = 0;
        for (int i = 0; i < users.size(); i++) {
            users.get(i).countedBlocks = 0;
        }
        for (int i = 0; i < groups.size(); i++) {
            groups.get(i).countedBlocks = 0;
        }
        for (int i = 0; i < tree.size(); i++) {
            tree.get(i).account.countedBlocks = 0;
        }
        return store.size();
    }

    public int recount(int files) throws IllegalArgumentException, IllegalStateException {
        if (files < 1 || files > MOST_FILES) {
            throw new IllegalArgumentException("files is out of range");
        }
        if (!recountBegun) {
            throw new IllegalStateException("no recount was begun");
        }
        for (int i = 0; i < files && takenFiles < store.size(); i++) {
            take(store.get(takenFiles));
            takenFiles++;
        }
        return store.size() - takenFiles;
    }

    public int counted(int kind, int number) throws IndexOutOfBoundsException, IllegalStateException {
        Account account = accountOf(kind, number);
        if (!recountBegun) {
            throw new IllegalStateException("no recount was begun");
        }
        return account.countedBlocks;
    }

    // ---- looking up

    private Project projectOfNumber(int number) {
        if (number < 0 || number >= tree.size()) {
            throw new IndexOutOfBoundsException("no such project");
        }
        return tree.get(number);
    }

    /** The project of the first letters of the path in the buffer; null if it is not there. */
    private Project projectOfPath(int letters) {
        Project at = root;
        for (int i = 0; i < letters && i < path.length() && at != null; i++) {
            at = childOf(at, path.charAt(i));
        }
        return at;
    }

    private Project childOf(Project parent, char letter) {
        for (int i = 0; i < tree.size(); i++) {
            Project child = tree.get(i);
            if (child.parent == parent && child.letter == letter) {
                return child;
            }
        }
        return null;
    }

    private StoredFile liveFile(int number) {
        if (number < 0 || number >= store.size() || store.get(number).deleted) {
            throw new IndexOutOfBoundsException("no such file");
        }
        return store.get(number);
    }

    private Account accountOf(int kind, int number) {
        if (kind == USER && number >= 0 && number < users.size()) {
            return users.get(number);
        }
        if (kind == GROUP && number >= 0 && number < groups.size()) {
            return groups.get(number);
        }
        if (kind == PROJECT && number >= 0 && number < tree.size()) {
            return tree.get(number).account;
        }
        throw new IndexOutOfBoundsException("no such account");
    }

    /** The accounts in which a file counts, in the order in which they are asked. */
    private ArrayList<Account> accountsOf(StoredFile file) {
        accountRow.clear();
        accountRow.add(file.owner);
        accountRow.add(file.group);
        for (Project at = file.project; at != null; at = at.parent) {
            accountRow.add(at.account);
        }
        return accountRow;
    }

    private boolean countsIn(StoredFile file, Account account) {
        ArrayList<Account> accounts = accountsOf(file);
        for (int i = 0; i < accounts.size(); i++) {
            if (accounts.get(i) == account) {
                return true;
            }
        }
        return false;
    }

    private int blocksUsedBy(StoredFile file) {
        int blocks = file.blocks;
        for (int i = 0; i < reservations.size(); i++) {
            Reservation reservation = reservations.get(i);
            if (reservation.open && reservation.file == file) {
                blocks += reservation.blocks;
            }
        }
        return blocks;
    }

    // ---- moving a project

    private boolean canMove(Project moved, Project target) {
        if (moved == root || target.isWithin(moved)) {
            return false;
        }
        int lettersBelowParent = deepestWithin(moved) - moved.letters() + 1;
        if (target.letters() + lettersBelowParent > MOST_LETTERS) {
            return false;
        }
        Project there = childOf(target, moved.letter);
        return there == null || there == moved;
    }

    private int deepestWithin(Project top) {
        int deepest = 0;
        for (int i = 0; i < tree.size(); i++) {
            Project project = tree.get(i);
            if (project.isWithin(top)) {
                deepest = Math.max(deepest, project.letters());
            }
        }
        return deepest;
    }

    private int projectsWithin(Project top) {
        int count = 0;
        for (int i = 0; i < tree.size(); i++) {
            if (tree.get(i).isWithin(top)) {
                count++;
            }
        }
        return count;
    }

    private void chargeFilesWithin(Project top, int sign) {
        for (int i = 0; i < store.size(); i++) {
            StoredFile file = store.get(i);
            if (!file.deleted && file.project.isWithin(top)) {
                charge(file, sign * blocksUsedBy(file), sign);
            }
        }
    }

    // ---- keeping the accounts

    private void charge(StoredFile file, int blocks, int files) {
        boolean taken = file.number < takenFiles;
        ArrayList<Account> accounts = accountsOf(file);
        for (int i = 0; i < accounts.size(); i++) {
            Account account = accounts.get(i);
            account.add(blocks, files);
            if (taken) {
                account.countedBlocks += blocks;
            }
        }
    }

    private void take(StoredFile file) {
        if (file.deleted) {
            return;
        }
        int blocks = blocksUsedBy(file);
        ArrayList<Account> accounts = accountsOf(file);
        for (int i = 0; i < accounts.size(); i++) {
            accounts.get(i).countedBlocks += blocks;
        }
    }

    /** Only behind a whole call: in the middle of a move an account may look not over. */
    private void noteOverAccounts() {
        for (int i = 0; i < users.size(); i++) {
            users.get(i).noteOver(clock);
        }
        for (int i = 0; i < groups.size(); i++) {
            groups.get(i).noteOver(clock);
        }
        for (int i = 0; i < tree.size(); i++) {
            tree.get(i).account.noteOver(clock);
        }
    }

    // ---- limits

    private int barringPlace(StoredFile file, int moreBlocks, int moreFiles) {
        ArrayList<Account> accounts = accountsOf(file);
        for (int place = 0; place < accounts.size(); place++) {
            if (accounts.get(place).bars(moreBlocks, moreFiles, clock)) {
                return place;
            }
        }
        return NONE;
    }

    private static int barredAnswer(int place) {
        return -2 - place;
    }

    private static boolean isLimit(int limit, int highest) {
        return limit == NONE || limit >= 0 && limit <= highest;
    }
}
