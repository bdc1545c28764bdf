import java.io.IOException;
import java.nio.charset.StandardCharsets;
import java.nio.file.Files;
import java.nio.file.Path;
import java.util.ArrayList;
import java.util.Comparator;
import java.util.List;
import java.util.regex.Matcher;
import java.util.regex.Pattern;
import java.util.stream.Stream;

/**
 * The example of README.md: compiled and run by the commands of README.md, as it stands there, it prints what
 * README.md says, and each call answers what stands behind it. It is started in the project's folder.
 */
public final class ReadmeTest {
    private static final Path CLASS_FILE = Path.of("src", "main", "java", "AllotmentLedger.java");
    private static final Pattern SHOWN_CALL =
            Pattern.compile("(\\s*)(int (\\w+) = )?(ledger\\.\\w+\\(.*?\\));\\s+// (throws )?([^\\s:]+)(:.*)?");
    private static final String MARK = "answer ";

    private final String program;
    private final List<String> commands;
    private final String printed;

    private ReadmeTest(List<String> readme) {
        program = String.join("\n", block(readme, "java"));
        commands = block(readme, "sh");
        printed = String.join("\n", block(readme, "text"));
    }

    public static void main(String[] args) throws IOException, InterruptedException {
        ReadmeTest test = new ReadmeTest(Files.readAllLines(Path.of("README.md"), StandardCharsets.UTF_8));
        Check.dueOutcome("README.md: the example, as it stands there", test.printed, test.run(test.program));
        test.dueAnswers();
        Check.end();
    }

    /** The lines of the first block of this language. */
    private static List<String> block(List<String> readme, String language) {
        int first = readme.indexOf("```" + language) + 1;
        if (first == 0) {
            throw new IllegalStateException("README.md has no block of " + language);
        }
        int end = first + readme.subList(first, readme.size()).indexOf("```");
        return readme.subList(first, end);
    }

    private void dueAnswers() throws IOException, InterruptedException {
        List<String> calls = new ArrayList<String>();
        List<String> wanted = new ArrayList<String>();
        StringBuilder asking = new StringBuilder();
        for (String line : program.split("\n")) {
            Matcher shown = SHOWN_CALL.matcher(line);
            boolean isCall = shown.matches();
            Check.due("README.md says an answer of: " + line.trim(), line.contains("ledger.") ? 1 : 0, isCall ? 1 : 0);
            asking.append(isCall ? printing(shown) : line).append('\n');
            if (isCall) {
                calls.add(shown.group(4));
                wanted.add(shown.group(6).replace("'", ""));
            }
        }
        List<String> answers = answersIn(run(asking.toString()));
        Check.due("README.md: how many calls answer", calls.size(), answers.size());
        for (int i = 0; i < Math.min(calls.size(), answers.size()); i++) {
            Check.dueOutcome("README.md: " + calls.get(i), wanted.get(i), answers.get(i));
        }
    }

    /** The same call, made to print what it answers or throws. */
    private static String printing(Matcher shown) {
        String call = shown.group(4);
        String print = "System.out.println(\"" + MARK + "\" + ";
        if (shown.group(4).startsWith("ledger.setLimits")) {
            return call + "; " + print + "\"nothing\");";
        }
        if (shown.group(2) != null) {
            return shown.group(2) + call + "; " + print + shown.group(3) + ");";
        }
        if (shown.group(5) == null) {
            return print + call + ");";
        }
        return "try { " + print + call + "); } catch (RuntimeException e) { "
                + print + "e.getClass().getSimpleName()); }";
    }

    private static List<String> answersIn(String output) {
        List<String> answers = new ArrayList<String>();
        for (String line : output.split("\n")) {
            if (line.startsWith(MARK)) {
                answers.add(line.substring(MARK.length()));
            }
        }
        return answers;
    }

    /** What the commands of README.md print, in a folder that is laid out as README.md says. */
    private String run(String example) throws IOException, InterruptedException {
        Path folder = Files.createTempDirectory("readme");
        try {
            Files.createDirectories(folder.resolve(CLASS_FILE).getParent());
            Files.copy(CLASS_FILE, folder.resolve(CLASS_FILE));
            Files.writeString(folder.resolve("Example.java"), example);
            StringBuilder output = new StringBuilder();
            for (String command : commands) {
                Process process = new ProcessBuilder(command.split(" ")).directory(folder.toFile())
                        .redirectError(ProcessBuilder.Redirect.INHERIT).start();
                output.append(new String(process.getInputStream().readAllBytes(), StandardCharsets.UTF_8));
                Check.due("README.md: exit code of " + command, 0, process.waitFor());
            }
            return output.toString().strip();
        } finally {
            remove(folder);
        }
    }

    private static void remove(Path folder) throws IOException {
        try (Stream<Path> paths = Files.walk(folder)) {
            for (Path path : paths.sorted(Comparator.reverseOrder()).toList()) {
                Files.delete(path);
            }
        }
    }
}
