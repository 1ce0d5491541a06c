import java.io.IOException;
import java.nio.file.Files;
import java.util.ArrayList;
import java.util.HashMap;
import java.util.List;
import java.util.Map;

/**
 * Tests of single sentences of the document. Each test first quotes its sentences; a quote that ends in "..." stands for
 * the sentence that begins so. checkQuotes tells each sentence without a test, and each quote that no sentence is.
 */
final class Edge {
    /**
     * Every part of the state holds something: the failure 6, 0, 0; a snapshot of 5 objects and 2 rules; 3 rules; a
     * system of 5 objects (0 to 3 with words) and 7 steps, whose peaks 0 and 3 are decreasing and 1 and 2 are not; 3 pairs;
     * a labelling of 7 steps; an output; an array of 3 elements, one of none, and a missing one; the input ab.
     */
    static final String RICH = """
        type(a>aa) = 4; addRule() = 0; type(ba) = 2; explore() = EXPLORATION_FAILED; clearRules() = 1
        type(ab>c) = 4; addRule() = 0; type(c>) = 2; addRule() = 1; addGreater(6, 5) = 1; type(abc) = 3; explore() = 5
        saveSnapshot() = 5; removeGreater(6, 5) = 1; clearRules() = 2
        type(b>c) = 3; addRule() = 0; type(a>) = 2; addRule() = 1; type(bb>a) = 4; addRule() = 2; type(ab) = 2; explore() = 4
        addObject() = 4; addStep(4, 0, 5) = 4; addStep(4, 4, 6) = 5; addStep(0, 4, 7) = 6
        addGreater(2, 1) = 1; addGreater(1, 0) = 1; addGreater(7, 3) = 1
        findLabelling(2) = 1; draw(0) = 15
        newArray(0, 3) = 1; setElement(0, 1, -7) = 1; setElement(0, 2, MAX_LONG) = 1; newArray(1, 0) = 1
        type(ab) = 2
        """;

    private static final List<Document.Sentence> QUOTES = new ArrayList<>();
    private static final Map<String, String> READINGS = new HashMap<>();
    private static String name = "";

    private Edge() {
    }

    /** Begins the tests of sentences of a promise; 0 stands for the Description. */
    static void of(int promise, String... sentences) {
        for (String sentence : sentences) {
            QUOTES.add(new Document.Sentence(promise, sentence));
        }
        name = promise + ", " + String.join(" / ", sentences);
    }

    /** Calls on a new object, each with its answer. */
    static void run(String script) {
        Script.run(name, script);
    }

    /** Calls that leave every part of the state as it was: refused calls, and calls that only ask. */
    static void leave(String before, String calls) {
        change("", before, calls);
    }

    /** Calls that change these parts of the state and leave the others as they were. */
    static void change(String parts, String before, String calls) {
        Script.run(name, before + "\n" + calls);
        List<String> due = List.of(parts.split(" "));
        for (Part part : Part.values()) {
            String was = READINGS.computeIfAbsent(part + before, key -> part.read(() -> Script.replay(before)));
            String is = part.read(() -> Script.replay(before + "\n" + calls));
            Script.due(name + ": " + calls.strip() + ": " + part + " changed", !was.equals(is), due.contains(part.name()));
        }
    }

    /** A call with # in place of an argument that is to lie from low to high: what lies outside changes nothing. */
    static void range(String before, String call, int low, int high) {
        leave(before, outside(call, low, high));
    }

    /** The call with each number that lies outside, those among them that would fit if only some of their bits counted. */
    private static String outside(String call, int low, int high) {
        int[] numbers = {
            low - 1, high + 1, Integer.MIN_VALUE, Integer.MAX_VALUE, low + 8, low + 16, low + 32, low + 64, low + 128,
            low + 256, low + (1 << 16), low + (1 << 24), low + (1 << 31), low - 32, low - 256, -high - 1
        };
        StringBuilder script = new StringBuilder();
        for (int number : numbers) {
            if (number < low || number > high) {
                script.append(call.replace("#", String.valueOf(number))).append('\n');
            }
        }
        return script.toString();
    }

    static String objects(int from, int count) {
        StringBuilder script = new StringBuilder();
        for (int object = from; object < count; object++) {
            script.append("addObject() = ").append(object).append('\n');
        }
        return script.toString();
    }

    /** Steps from object 0 to itself, with the labels 0 to 7 in turn. */
    static String loops(int from, int count) {
        StringBuilder script = new StringBuilder();
        for (int step = from; step < count; step++) {
            script.append("addStep(0, 0, ").append(step % 8).append(") = ").append(step).append('\n');
        }
        return script.toString();
    }

    static String repeat(String script, int times) {
        return (script + "\n").repeat(times);
    }

    /** Objects 0 to 15 and the steps 0 > 1 > ... > 15, step n leaving object n. */
    static String line() {
        StringBuilder script = new StringBuilder(objects(0, 16));
        for (int step = 0; step < 15; step++) {
            script.append("addStep(").append(step).append(", ").append(step + 1).append(", 0) = ").append(step).append('\n');
        }
        return script.toString();
    }

    static void checkQuotes() throws IOException {
        if (!Files.isReadable(Document.PLACE)) {
            System.out.println("no document at " + Document.PLACE + ": the quotes were not compared with it");
            return;
        }
        List<Document.Sentence> sentences = Document.sentences();
        for (Document.Sentence sentence : sentences) {
            boolean quoted = QUOTES.stream().anyMatch(quote -> fits(quote, sentence));
            Script.due("promise " + sentence.promise() + " has a test of: " + sentence.text(), quoted, true);
        }
        for (Document.Sentence quote : QUOTES) {
            boolean known = sentences.stream().anyMatch(sentence -> fits(quote, sentence));
            Script.due("promise " + quote.promise() + " says: " + quote.text(), known, true);
        }
    }

    private static boolean fits(Document.Sentence quote, Document.Sentence sentence) {
        if (quote.promise() != sentence.promise()) {
            return false;
        }
        String text = quote.text();
        if (text.endsWith("...")) {
            return sentence.text().startsWith(text.substring(0, text.length() - 3));
        }
        return sentence.text().equals(text);
    }
}
