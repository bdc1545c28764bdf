import java.util.ArrayList;
import java.util.List;

/**
 * The document's terms in their plainest form: paths are texts, and every answer is counted anew from
 * the files and reservations. It shares no idea with AllotmentLedger about how the state is held.
 */
public final class PlainLedger {
    private static final class Entry {
        int user;
        int project;
        int blocks;
        boolean deleted;
    }

    private static final class Hold {
        int file;
        int blocks;
        boolean open = true;
    }

    private String buffer = "";
    private final List<String> paths = new ArrayList<String>(List.of(""));
    private final List<Entry> files = new ArrayList<Entry>();
    private final List<Hold> holds = new ArrayList<Hold>();
    private final int[][][] limits = new int[3][21][];
    private final int[][] overSince = new int[3][21];
    private int clock = 0;
    private int taken = -1;

    public PlainLedger() {
        for (int kind = 0; kind < 3; kind++) {
            for (int number = 0; number < 21; number++) {
                limits[kind][number] = new int[] {-1, -1, -1};
                overSince[kind][number] = -1;
            }
        }
    }

    public int type(char letter) {
        argument("abcdefghijklmnopqrstuvwxyz".indexOf(letter) >= 0);
        state(buffer.length() < 8);
        buffer += letter;
        return buffer.length();
    }

    public int back() {
        state(!buffer.isEmpty());
        buffer = parentOf(buffer);
        return buffer.length();
    }

    public int clearPath() {
        int letters = buffer.length();
        buffer = "";
        return letters;
    }

    public int makeProject() {
        state(!paths.contains(buffer) && paths.contains(parentOf(buffer)) && paths.size() <= 20);
        paths.add(buffer);
        return paths.size() - 1;
    }

    public int findProject() {
        return paths.indexOf(buffer);
    }

    public int moveProject(int project) {
        index(isIn(project, paths));
        String old = paths.get(project);
        state(project != 0 && paths.contains(buffer) && !buffer.startsWith(old));
        int cut = old.length() - 1;
        List<String> after = new ArrayList<String>();
        int changed = 0;
        for (String path : paths) {
            String moved = path.startsWith(old) ? buffer + path.substring(cut) : path;
            state(moved.length() <= 8 && !after.contains(moved));
            changed += moved.equals(path) ? 0 : 1;
            after.add(moved);
        }
        paths.clear();
        paths.addAll(after);
        noteOver();
        return changed;
    }

    public char letterAt(int project, int place) {
        index(isIn(project, paths) && place >= 0);
        String path = paths.get(project);
        return place < path.length() ? path.charAt(place) : ' ';
    }

    public int projects() {
        return paths.size();
    }

    public int makeFile(int user, int project) {
        index(user >= 0 && user <= 5 && isIn(project, paths));
        state(files.size() < 40);
        Entry made = new Entry();
        made.user = user;
        made.project = project;
        int place = 0;
        for (int[] account : accountsOf(made)) {
            int limit = limits[account[0]][account[1]][2];
            if (limit >= 0 && filesOf(account[0], account[1]) + 1 > limit) {
                return -2 - place;
            }
            place++;
        }
        files.add(made);
        return files.size() - 1;
    }

    public int write(int file, int blocks) {
        Entry entry = live(file);
        argument(blocks >= -1000 && blocks <= 1000 && entry.blocks + blocks >= 0);
        int place = barring(entry, blocks);
        if (place >= 0) {
            return -2 - place;
        }
        entry.blocks += blocks;
        noteOver();
        return entry.blocks;
    }

    public int delete(int file) {
        Entry entry = live(file);
        int uses = uses(file);
        entry.deleted = true;
        for (Hold hold : holds) {
            hold.open &= hold.file != file;
        }
        noteOver();
        return uses;
    }

    public int moveFile(int file, int project) {
        Entry entry = live(file);
        index(isIn(project, paths));
        int before = entry.project;
        entry.project = project;
        noteOver();
        return before;
    }

    public int reserve(int file, int blocks) {
        Entry entry = live(file);
        argument(blocks >= 1 && blocks <= 1000);
        state(holds.size() < 30);
        int place = barring(entry, blocks);
        if (place >= 0) {
            return -2 - place;
        }
        Hold hold = new Hold();
        hold.file = file;
        hold.blocks = blocks;
        holds.add(hold);
        noteOver();
        return holds.size() - 1;
    }

    public int settle(int reservation, int blocks) {
        index(isIn(reservation, holds) && holds.get(reservation).open);
        Hold hold = holds.get(reservation);
        argument(blocks >= 0 && blocks <= hold.blocks);
        hold.open = false;
        files.get(hold.file).blocks += blocks;
        noteOver();
        return files.get(hold.file).blocks;
    }

    public void setLimits(int kind, int number, int soft, int hard, int files) {
        account(kind, number);
        argument(soft >= -1 && soft <= 100000 && hard >= -1 && hard <= 100000 && files >= -1 && files <= 100);
        limits[kind][number] = new int[] {soft, hard, files};
        noteOver();
    }

    public int pass(int hours) {
        argument(hours >= 1 && hours <= 1000);
        state(clock + hours <= 100000);
        clock += hours;
        return clock;
    }

    public int used(int kind, int number) {
        account(kind, number);
        return sum(kind, number, files.size());
    }

    public int filesOf(int kind, int number) {
        account(kind, number);
        int count = 0;
        for (Entry entry : files) {
            count += !entry.deleted && counts(entry, kind, number) ? 1 : 0;
        }
        return count;
    }

    public int usedByFiles(int kind, int number) {
        return used(kind, number);
    }

    public int grace(int kind, int number) {
        account(kind, number);
        int since = overSince[kind][number];
        if (since < 0) {
            return -1;
        }
        return clock - since >= 48 ? 0 : since + 48 - clock;
    }

    public int room(int file) {
        Entry entry = live(file);
        // What bars some blocks bars more of them, too; no hard limit is as high as the highest here.
        int passes = 0;
        int barred = 1000000;
        if (barring(entry, barred) < 0) {
            return -1;
        }
        while (barred - passes > 1) {
            int middle = (passes + barred) / 2;
            if (barring(entry, middle) < 0) {
                passes = middle;
            } else {
                barred = middle;
            }
        }
        return passes;
    }

    public int beginRecount() {
        taken = 0;
        return files.size();
    }

    public int recount(int files) {
        argument(files >= 1 && files <= 40);
        state(taken >= 0);
        taken = Math.min(taken + files, this.files.size());
        return this.files.size() - taken;
    }

    public int counted(int kind, int number) {
        account(kind, number);
        state(taken >= 0);
        return sum(kind, number, taken);
    }

    private int barring(Entry entry, int more) {
        int place = 0;
        for (int[] account : accountsOf(entry)) {
            int hard = limits[account[0]][account[1]][1];
            boolean beyond = hard >= 0 && used(account[0], account[1]) + more > hard;
            if (more > 0 && (beyond || grace(account[0], account[1]) == 0)) {
                return place;
            }
            place++;
        }
        return -1;
    }

    private List<int[]> accountsOf(Entry entry) {
        List<int[]> accounts = new ArrayList<int[]>();
        accounts.add(new int[] {0, entry.user});
        accounts.add(new int[] {1, entry.user % 3});
        String path = paths.get(entry.project);
        for (int letters = path.length(); letters >= 0; letters--) {
            accounts.add(new int[] {2, paths.indexOf(path.substring(0, letters))});
        }
        return accounts;
    }

    private boolean counts(Entry entry, int kind, int number) {
        if (kind == 2) {
            return paths.get(entry.project).startsWith(paths.get(number));
        }
        return (kind == 0 ? entry.user : entry.user % 3) == number;
    }

    private int sum(int kind, int number, int firstFiles) {
        int blocks = 0;
        for (int file = 0; file < firstFiles; file++) {
            if (counts(files.get(file), kind, number)) {
                blocks += uses(file);
            }
        }
        return blocks;
    }

    private int uses(int file) {
        if (files.get(file).deleted) {
            return 0;
        }
        int blocks = files.get(file).blocks;
        for (Hold hold : holds) {
            blocks += hold.open && hold.file == file ? hold.blocks : 0;
        }
        return blocks;
    }

    private static String parentOf(String path) {
        return path.isEmpty() ? path : path.substring(0, path.length() - 1);
    }

    private void noteOver() {
        for (int kind = 0; kind < 3; kind++) {
            for (int number = 0; number < numbers(kind); number++) {
                int soft = limits[kind][number][0];
                boolean over = soft >= 0 && used(kind, number) > soft;
                if (!over) {
                    overSince[kind][number] = -1;
                } else if (overSince[kind][number] < 0) {
                    overSince[kind][number] = clock;
                }
            }
        }
    }

    private int numbers(int kind) {
        return kind == 0 ? 6 : kind == 1 ? 3 : paths.size();
    }

    private void account(int kind, int number) {
        index(kind >= 0 && kind <= 2 && number >= 0 && number < numbers(kind));
    }

    private Entry live(int file) {
        index(isIn(file, files) && !files.get(file).deleted);
        return files.get(file);
    }

    private static boolean isIn(int number, List<?> list) {
        return number >= 0 && number < list.size();
    }

    private static void index(boolean right) {
        if (!right) {
            throw new IndexOutOfBoundsException();
        }
    }

    private static void argument(boolean right) {
        if (!right) {
            throw new IllegalArgumentException();
        }
    }

    private static void state(boolean right) {
        if (!right) {
            throw new IllegalStateException();
        }
    }
}
