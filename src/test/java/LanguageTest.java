import java.io.IOException;
import java.nio.file.Files;
import java.nio.file.Path;
import java.util.List;
import java.util.regex.Matcher;
import java.util.regex.Pattern;

/** The rules of LANGUAGE.md that the text of the program shows; .ci/run starts this in the project's folder. */
public final class LanguageTest {
    private static final Path SOURCE = Path.of("src", "main", "java", "DecreasingDiagrams.java");

    private static final String[] FORBIDDEN = {
        "\\bthrow\\b", "\\bthrows\\b", "\\btry\\b", "\\bcatch\\b", "\\bfinally\\b", "\\bsynchronized\\b", "\\bassert\\b",
        "\\bpackage\\b", "\\bprotected\\b", "\\bvolatile\\b", "\\bnative\\b", "->", "::", "Exact\\b", "\\bThread\\b",
        "\\bRandom\\b", "\\bnanoTime\\b", "\\bcurrentTimeMillis\\b", "\\bString\\.", "\\bObject\\b", "\\bMap\\b", "\\bSet\\b",
        "\\bvar\\b", "\\bhashCode\\b", "\\btoString\\b", "\\bfloat\\b", "\\bdouble\\b", "\\bSystem\\.(?!arraycopy\\()",
        "\\bArrays\\.(?!fill\\(|copyOf\\(|copyOfRange\\()", "\\bstatic \\{"
    };

    public static void main(String[] args) throws IOException {
        List<String> lines = Files.readAllLines(SOURCE);
        String code = withoutComments(String.join("\n", lines));
        for (String forbidden : FORBIDDEN) {
            Matcher matcher = Pattern.compile(forbidden).matcher(code);
            Script.due("the code holds " + forbidden, matcher.find(), false);
        }
        checkImports(lines);
        checkMethods(code);
        Script.finish();
    }

    private static String withoutComments(String text) {
        return text.replaceAll("(?s)/\\*.*?\\*/", "").replaceAll("//[^\n]*", "");
    }

    private static void checkImports(List<String> lines) {
        for (String line : lines) {
            if (line.startsWith("import ")) {
                boolean listed = line.matches("import java\\.util\\.(Arrays|ArrayList|List|Iterator);");
                Script.due(line + " is listed", listed, true);
            }
        }
    }

    private static void checkMethods(String code) {
        Pattern head = Pattern.compile("(?m)^( +)(?:public|private) [\\w\\[\\] ]+\\(([^)]*)\\) \\{$");
        Matcher matcher = head.matcher(code);
        int methods = 0;
        while (matcher.find()) {
            methods++;
            String end = "\n" + matcher.group(1) + "}";
            String body = code.substring(matcher.end(), code.indexOf(end, matcher.end()) + end.length());
            long length = body.lines().count();
            Script.due(matcher.group().strip() + " has more than forty lines", length > 40, false);
            Script.due(matcher.group().strip() + " has more than seven parameters", matcher.group(2).split(",").length > 7, false);
        }
        Script.due("methods were found", methods > 100, true);
    }
}
