/** All that the answers of a ledger tell of its state, as lines of text. */
final class Picture {
    private static final int LETTERS = 8;
    private static final int FILES = 40;
    private static final int RESERVATIONS = 30;

    private final AllotmentLedger ledger;
    private final StringBuilder lines = new StringBuilder();

    private Picture(AllotmentLedger ledger) {
        this.ledger = ledger;
    }

    /** Takes up to some 450 calls, and leaves the ledger changed: each one is looked at once. */
    static String of(AllotmentLedger ledger) {
        Picture picture = new Picture(ledger);
        picture.projects();
        picture.accounts();
        picture.files();
        picture.reservations();
        picture.clockAndRecount();
        picture.buffer();
        picture.nextNumbers();
        return picture.lines.toString();
    }

    private void line(String what, Check.Call call) {
        lines.append(what).append(": ").append(Check.outcome(call)).append('\n');
    }

    private void projects() {
        for (int project = 0; project < ledger.projects(); project++) {
            lines.append("path of ").append(project).append(": ");
            lines.append(Ledgers.pathOf(ledger, project)).append('\n');
        }
    }

    private void accounts() {
        int[] numbers = {6, 3, ledger.projects()};
        for (int kind = 0; kind < 3; kind++) {
            for (int number = 0; number < numbers[kind]; number++) {
                account(kind, number);
            }
        }
    }

    private void account(int kind, int number) {
        String name = " of " + kind + " " + number;
        line("used" + name, () -> ledger.used(kind, number));
        line("files" + name, () -> ledger.filesOf(kind, number));
        line("used by files" + name, () -> ledger.usedByFiles(kind, number));
        line("grace" + name, () -> ledger.grace(kind, number));
        line("counted" + name, () -> ledger.counted(kind, number));
    }

    private void files() {
        for (int i = 0; i <= FILES; i++) {
            int file = i;
            String name = " of file " + file;
            line("room" + name, () -> ledger.room(file));
            line("blocks" + name, () -> ledger.write(file, 0));
        }
    }

    private void reservations() {
        for (int i = 0; i <= RESERVATIONS; i++) {
            int reservation = i;
            line("giving up " + reservation, () -> ledger.settle(reservation, 0));
            line("used behind it", () -> ledger.used(AllotmentLedger.PROJECT, 0));
        }
    }

    private void clockAndRecount() {
        line("clock", () -> ledger.pass(1));
        line("recount", () -> ledger.recount(1));
        line("counted behind it", () -> ledger.counted(AllotmentLedger.PROJECT, 0));
    }

    private void buffer() {
        for (int i = 0; i <= LETTERS; i++) {
            line("project of the buffer", () -> ledger.findProject());
            line("back", () -> ledger.back());
        }
    }

    private void nextNumbers() {
        line("next file", () -> ledger.makeFile(0, 0));
        line("next reservation", () -> ledger.reserve(0, 1));
        line("next letter", () -> ledger.type('z'));
        line("next project", () -> ledger.makeProject());
    }
}
