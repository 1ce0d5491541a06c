import java.io.IOException;
import java.nio.file.Files;
import java.nio.file.Path;
import java.util.ArrayList;
import java.util.List;
import java.util.regex.Matcher;
import java.util.regex.Pattern;

/**
 * Reads the document into sentences, each with the number of its promise, or 0 where it stands before the promises, and
 * apart from them its examples and the lines of its public face.
 */
final class Document {
    static final Path PLACE = Path.of("..", "shared", "DOC.md");

    record Sentence(int promise, String text) {
    }

    /** An example of the Description: its name, and its calls as Script takes them. */
    record Example(String name, String calls) {
    }

    private static final Pattern PROMISE = Pattern.compile("Promise (\\d+):.*");
    private static final int NO_SECTION = -1;

    private final List<Sentence> sentences = new ArrayList<>();
    private final List<Example> examples = new ArrayList<>();
    private final List<String> face = new ArrayList<>();
    private int section = NO_SECTION;

    private Document() {
    }

    static List<Sentence> sentences() throws IOException {
        return read().sentences;
    }

    static List<Example> examples() throws IOException {
        return read().examples;
    }

    /** The members of the public face, a line each. */
    static List<String> face() throws IOException {
        return read().face;
    }

    private static Document read() throws IOException {
        Document document = new Document();
        StringBuilder paragraph = new StringBuilder();
        boolean code = false;
        for (String line : Files.readAllLines(PLACE)) {
            code ^= line.startsWith("```");
            boolean begins = line.isBlank() || line.startsWith("#") || line.startsWith("- ") || line.startsWith("```");
            if (begins) {
                document.take(paragraph.toString());
                paragraph.setLength(0);
            }
            if (code && line.startsWith("    public ")) {
                document.face.add(line.strip());
            } else if (!code && !line.startsWith("```")) {
                // The indent of the examples is kept: it tells them from other paragraphs.
                paragraph.append(paragraph.length() == 0 ? "" : " ").append(paragraph.length() == 0 ? line : line.strip());
            }
        }
        document.take(paragraph.toString());
        return document;
    }

    private void take(String paragraph) {
        if (paragraph.startsWith("## ")) {
            section = sectionOf(paragraph.substring(3));
        } else if (section == 0 && paragraph.startsWith("  ")) {
            String[] parts = paragraph.strip().replaceAll("\\.$", "").split(": ", 2);
            examples.add(new Example(parts[0], parts[parts.length - 1]));
        } else if (section == NO_SECTION || isNoSentence(paragraph)) {
            return;
        } else {
            boolean isReturns = section != 0 && paragraph.startsWith("Returns ");
            String text = paragraph.startsWith("- ") ? paragraph.substring(2).replace("`", "") : paragraph;
            for (String sentence : text.split(isReturns ? "; |(?<=\\.) " : "(?<=\\.) ")) {
                add(sentence);
            }
        }
    }

    private static int sectionOf(String heading) {
        Matcher matcher = PROMISE.matcher(heading);
        if (matcher.matches()) {
            return Integer.parseInt(matcher.group(1));
        }
        return heading.equals("What it is") || heading.equals("Description") ? 0 : NO_SECTION;
    }

    /** Signatures, headings of groups, and what only leads to the examples, the constants and the promises. */
    private static boolean isNoSentence(String paragraph) {
        return paragraph.isBlank() || paragraph.startsWith("`") || paragraph.startsWith("----")
            || paragraph.startsWith("Examples, ") || paragraph.startsWith("The con");
    }

    private void add(String text) {
        boolean isHeading = section == 0 && (text.split(" ").length < 3 || text.startsWith("Confluence of "));
        if (!isHeading) {
            sentences.add(new Sentence(section, text.strip().replaceAll("\\.$", "")));
        }
    }
}
