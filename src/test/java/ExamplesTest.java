import java.io.IOException;

/** The examples of the document's Description: as they stood when this was written, and as the document has them now. */
public final class ExamplesTest {
    public static void main(String[] args) throws IOException {
        Script.run("a peak, before and after pairs of the label order", """
            addObject() = 0; addObject() = 1; addObject() = 2; addObject() = 3
            addStep(0, 1, 1) = 0; addStep(0, 2, 2) = 1; addStep(1, 3, 0) = 2; addStep(2, 3, 0) = 3; isDecreasing(0) = 0
            addGreater(1, 0) = 1; addGreater(2, 0) = 1; isDecreasing(0) = 1; valley(0) = 3; joinLength(0, 0) = 1
            isConfluent() = 1
            """);
        Script.run("a cycle in the label order", """
            addGreater(1, 0) = 1; addGreater(2, 1) = 1; isGreater(2, 0) = 1; addGreater(0, 2) = -4
            """);
        Script.run("the rule a>b and the word aa", """
            feed(97) = 1; feed(62) = 2; feed(98) = 3; addRule() = 0; feed(97) = 1; feed(97) = 2
            explore() = 4; objectCount() = 4; peakCount() = 1; isConfluent() = 1
            """);
        Script.run("a rule without its sign", """
            feed(97) = 1; feed(98) = 2; addRule() = -102
            """);
        Script.run("a step from an object to itself", """
            addObject() = 0; addStep(0, 0, 0) = 0; isTerminating() = 0; longestPath(0) = -2
            normalForm(0) = -2
            """);
        for (Document.Example example : Document.examples()) {
            Script.run("the document: " + example.name(), example.calls());
        }
        Script.due("the document has five examples or more", Document.examples().size() >= 5, true);
        Script.finish();
    }
}
