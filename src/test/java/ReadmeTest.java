import java.io.IOException;
import java.nio.file.Files;
import java.nio.file.Path;
import java.util.List;
import java.util.regex.Matcher;
import java.util.regex.Pattern;
import java.util.stream.Stream;

/**
 * What README.md says: each of its Java blocks is a run on a new object, a call a line with its answer behind it, and its
 * table names every test. .ci/run starts this in the project's folder.
 */
public final class ReadmeTest {
    private static final Path README = Path.of("README.md");
    private static final Path TESTS = Path.of("src", "test", "java");
    private static final String MAKING = "DecreasingDiagrams d = new DecreasingDiagrams();";

    private static final Pattern CALL = Pattern.compile("d\\.(\\w+\\([^)]*\\)); +// (-?\\d+)\\b.*");
    private static final Pattern FEEDING
        = Pattern.compile("for \\(char b : \"([^\"]+)\"\\.toCharArray\\(\\)\\) d\\.feed\\(b\\); +// (\\d+)\\b.*");
    private static final Pattern TEXT = Pattern.compile(".* the text (\\S+)");

    public static void main(String[] args) throws IOException {
        List<String> lines = Files.readAllLines(README);
        checkUse(lines);
        checkTable(String.join("\n", lines));
        Script.finish();
    }

    private static void checkUse(List<String> lines) {
        StringBuilder script = new StringBuilder();
        boolean code = false;
        int runs = 0;
        for (String line : lines) {
            if (line.equals("```java")) {
                code = true;
            } else if (code && line.equals("```")) {
                code = false;
                runs++;
                Script.run("README, use " + runs, script.toString());
                script.setLength(0);
            } else if (code && !line.equals(MAKING)) {
                script.append(callsOf(line));
            }
        }
        Script.due("README shows uses", runs > 0, true);
    }

    /** A line of a use as Script takes it. */
    private static String callsOf(String line) {
        Matcher feeding = FEEDING.matcher(line);
        if (feeding.matches()) {
            return "type(" + feeding.group(1) + ") = " + feeding.group(2) + "\n";
        }
        Matcher call = CALL.matcher(line);
        Script.due("README: a call with its answer: " + line, call.matches(), true);
        if (!call.matches()) {
            return "";
        }
        Matcher text = TEXT.matcher(line);
        return call.group(1) + " = " + call.group(2) + "\n" + (text.matches() ? "text() = " + text.group(1) + "\n" : "");
    }

    private static void checkTable(String readme) throws IOException {
        try (Stream<Path> files = Files.list(TESTS)) {
            for (Path file : files.sorted().toList()) {
                String name = file.getFileName().toString().replace(".java", "");
                if (name.endsWith("Test")) {
                    Script.due("README names " + name, readme.matches("(?s).*\\b" + name + "\\b.*"), true);
                }
            }
        }
    }
}
