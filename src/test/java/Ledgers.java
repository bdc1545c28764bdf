/** Short ways to bring a ledger to where a test begins. */
final class Ledgers {
    private Ledgers() {
    }

    static void path(AllotmentLedger ledger, String path) {
        ledger.clearPath();
        for (int i = 0; i < path.length(); i++) {
            ledger.type(path.charAt(i));
        }
    }

    /** Makes projects 1, 2, and so on, with these paths. */
    static AllotmentLedger withProjects(String... paths) {
        AllotmentLedger ledger = new AllotmentLedger();
        for (String each : paths) {
            path(ledger, each);
            ledger.makeProject();
        }
        ledger.clearPath();
        return ledger;
    }

    /** Files 0 to 3 with 1, 10, 100 and 1000 blocks, in a, ab, b and the root, of users 0 to 3. */
    static AllotmentLedger withFourFiles() {
        AllotmentLedger ledger = withProjects("a", "ab", "b");
        int[] projects = {1, 2, 3, 0};
        int[] blocks = {1, 10, 100, 1000};
        for (int file = 0; file < 4; file++) {
            ledger.makeFile(file, projects[file]);
            ledger.write(file, blocks[file]);
        }
        return ledger;
    }

    static String pathOf(AllotmentLedger ledger, int project) {
        StringBuilder letters = new StringBuilder();
        for (int place = 0; ledger.letterAt(project, place) != ' '; place++) {
            letters.append(ledger.letterAt(project, place));
        }
        return letters.toString();
    }

    static long limits(AllotmentLedger ledger, int kind, int number, int soft, int hard, int files) {
        ledger.setLimits(kind, number, soft, hard, files);
        return 0;
    }

    static void pass(AllotmentLedger ledger, int hours) {
        for (int left = hours; left > 0; left -= 1000) {
            ledger.pass(Math.min(left, 1000));
        }
    }
}
