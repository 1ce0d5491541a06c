/** Promises 35 to 38: labellings. */
public final class LabellingTest {
    /** A square: two steps from object 0, and two that join them again at object 3. */
    private static final String SQUARE = """
        addObject() = 0; addObject() = 1; addObject() = 2; addObject() = 3
        addStep(0, 1, 7) = 0; addStep(0, 2, 6) = 1; addStep(1, 3, 5) = 2; addStep(2, 3, 4) = 3
        """;

    /** Needs a label below: object 1 is joined with object 2 over two steps. */
    private static final String TRIANGLE = """
        addObject() = 0; addObject() = 1; addObject() = 2; addObject() = 3
        addStep(0, 1, 7) = 0; addStep(0, 2, 6) = 1; addStep(1, 3, 5) = 2; addStep(3, 2, 4) = 3
        """;

    public static void main(String[] args) {
        findLabelling();
        labellingCount();
        foundLabel();
        applyLabelling();
        Script.finish();
    }

    private static void findLabelling() {
        Script.run("35, one label is enough for a square", SQUARE + """
            findLabelling(1) = 1; foundLabel(0) = 0; foundLabel(1) = 0; foundLabel(2) = 0; foundLabel(3) = 0
            label(0) = 7; label(1) = 6; label(2) = 5; label(3) = 4; isGreater(1, 0) = 0
            """);
        Script.run("35, the first of several for a triangle", TRIANGLE + """
            findLabelling(1) = 0; foundLabel(0) = NONE; findLabelling(2) = 1; foundLabel(0) = 0; foundLabel(1) = 1
            foundLabel(2) = 0; foundLabel(3) = 0; findLabelling(3) = 1; foundLabel(1) = 1; foundLabel(0) = 0
            """);
        Script.run("35, none, and the labelling before stays", SQUARE + """
            findLabelling(2) = 1; removeStep(3) = 3; findLabelling(1) = 0; findLabelling(3) = 0; foundLabel(3) = 0
            foundLabel(4) = NONE; foundLabel(0) = 0
            """);
        Script.run("35, wrong numbers of labels, then too many steps", "addObject() = 0\n" + loops(8) + """
            findLabelling(0) = BAD_ARGUMENT; findLabelling(4) = BAD_ARGUMENT; findLabelling(-1) = BAD_ARGUMENT
            findLabelling(MAX_INT) = BAD_ARGUMENT; findLabelling(MIN_INT) = BAD_ARGUMENT; findLabelling(3) = 1
            foundLabel(7) = 0; foundLabel(8) = NONE; addStep(0, 0, 0) = 8; findLabelling(1) = TOO_LARGE
            findLabelling(3) = TOO_LARGE; findLabelling(4) = BAD_ARGUMENT; findLabelling(0) = BAD_ARGUMENT; foundLabel(7) = 0
            """);
        Script.run("35, a system without steps has the empty labelling", """
            findLabelling(1) = 1; foundLabel(0) = NONE; applyLabelling() = 0; isGreater(1, 0) = 1; addObject() = 0
            findLabelling(3) = 1; foundLabel(0) = NONE; applyLabelling() = 0
            """);
        Script.run("35, the label order of the system does not matter", TRIANGLE + """
            addGreater(0, 1) = 1; addGreater(1, 2) = 1; findLabelling(2) = 1; foundLabel(1) = 1; isGreater(0, 2) = 1
            isGreater(1, 0) = 0
            """);
    }

    private static String loops(int count) {
        StringBuilder script = new StringBuilder();
        for (int step = 0; step < count; step++) {
            script.append("addStep(0, 0, 0) = ").append(step).append('\n');
        }
        return script.toString();
    }

    private static void labellingCount() {
        Script.run("36, all labellings where there is no peak, and where all are decreasing", """
            labellingCount(1) = 1; labellingCount(3) = 1; addObject() = 0; labellingCount(2) = 1; addObject() = 1
            addStep(0, 1, 0) = 0; labellingCount(1) = 1; labellingCount(2) = 2; labellingCount(3) = 3; addStep(0, 1, 0) = 1
            labellingCount(3) = 9; addStep(1, 1, 0) = 2; labellingCount(3) = 27
            """);
        Script.run("36, all labellings of eight steps", "addObject() = 0\n" + loops(8) + """
            labellingCount(1) = 1; labellingCount(2) = 256; labellingCount(3) = 6561; foundLabel(0) = NONE
            addStep(0, 0, 0) = 8; labellingCount(1) = TOO_LARGE; labellingCount(3) = TOO_LARGE; labellingCount(0) = BAD_ARGUMENT
            labellingCount(4) = BAD_ARGUMENT; removeStep(0) = 8; labellingCount(2) = 256; labellingCount(0) = BAD_ARGUMENT
            labellingCount(4) = BAD_ARGUMENT; labellingCount(-1) = BAD_ARGUMENT
            """);
        // Steps labelled p and q; the step behind p may have label q or one below p or q, the step behind q likewise.
        // p = q = 0: 1 * 1 ways; p = 0, q = 1: 2 * 1; p = 1, q = 0: 1 * 2; p = q = 1: 2 * 2.
        Script.run("36, a square", SQUARE + """
            labellingCount(1) = 1; labellingCount(2) = 9; label(0) = 7; isGreater(1, 0) = 0
            """);
        Script.run("36, none", TRIANGLE + """
            labellingCount(1) = 0; removeStep(3) = 3; labellingCount(1) = 0; labellingCount(2) = 0; labellingCount(3) = 0
            """);
    }

    private static void foundLabel() {
        Script.run("37, the labelling keeps its own number of steps", TRIANGLE + """
            foundLabel(0) = NONE; findLabelling(2) = 1; foundLabel(-1) = NONE; foundLabel(4) = NONE; foundLabel(MIN_INT) = NONE
            foundLabel(MAX_INT) = NONE; clearSystem() = 4; foundLabel(3) = 0; foundLabel(1) = 1; labellingCount(2) = 1
            foundLabel(1) = 1; findLabelling(1) = 1; foundLabel(0) = NONE; foundLabel(1) = NONE
            """);
    }

    private static void applyLabelling() {
        Script.run("38, labels and the natural order", TRIANGLE + """
            applyLabelling() = NONE; setLabel(2, 0) = 5; addGreater(0, 1) = 1; findLabelling(2) = 1; applyLabelling() = 3
            label(0) = 0; label(1) = 1; label(2) = 0; label(3) = 0; isGreater(7, 0) = 1; isGreater(0, 1) = 0
            useNaturalOrder() = 28; firstFailure() = NONE; decreasingCount() = 1; applyLabelling() = 0
            """);
        Script.run("38, another number of steps changes nothing", TRIANGLE + """
            findLabelling(2) = 1; addStep(3, 3, 3) = 4; applyLabelling() = NONE; label(0) = 7; useNaturalOrder() = 0
            removeStep(0) = 4; applyLabelling() = 4; label(0) = 0; label(1) = 1; removeStep(0) = 3; applyLabelling() = NONE
            """);
        Script.run("38, a labelling of the system before", SQUARE + """
            findLabelling(1) = 1; clearSystem() = 4; addObject() = 0; addStep(0, 0, 0) = 0; addStep(0, 0, 1) = 1
            addStep(0, 0, 2) = 2; addStep(0, 0, 3) = 3; applyLabelling() = 3; label(3) = 0; isGreater(4, 3) = 1
            """);
    }
}
