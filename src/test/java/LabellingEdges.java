/** Promises 35 to 38, sentence by sentence: labellings. */
final class LabellingEdges {
    private static final String EIGHT_LOOPS = "addObject() = 0\n" + Edge.loops(0, 8);

    /** Object 0 has two normal forms: no labelling is decreasing. */
    private static final String FORK = Edge.objects(0, 3) + "addStep(0, 1, 4) = 0; addStep(0, 2, 3) = 1\n";

    /** 1 and 2 are joined over two steps: the first decreasing labelling with two labels is 0, 1, 0, 0. */
    private static final String TRIANGLE = Edge.objects(0, 4) + """
        addStep(0, 1, 7) = 0; addStep(0, 2, 6) = 1; addStep(1, 3, 5) = 2; addStep(3, 2, 4) = 3
        """;

    /** With two labels the first decreasing labelling is 0, 1, 1, 0, 0, 1; with three it is 0, 0, 2, 1, 0, 1. */
    private static final String THIRD_LABEL = Edge.objects(0, 4) + """
        addStep(0, 2, 7) = 0; addStep(2, 0, 7) = 1; addStep(1, 2, 7) = 2; addStep(2, 1, 7) = 3; addStep(1, 3, 7) = 4
        addStep(0, 3, 7) = 5
        """;

    private LabellingEdges() {
    }

    static void run() {
        findLabelling();
        labellingCount();
        foundLabel();
        applyLabelling();
    }

    private static void findLabelling() {
        Edge.of(35, "Finds the first decreasing labelling and remembers it", "Returns 1 if there is one");
        Edge.run(TRIANGLE + "findLabelling(2) = 1; foundLabel(0) = 0; foundLabel(1) = 1; foundLabel(2) = 0"
            + "; foundLabel(3) = 0");
        Edge.run(EIGHT_LOOPS + "findLabelling(1) = 1; foundLabel(0) = 0; foundLabel(7) = 0; foundLabel(8) = NONE");
        Edge.change("LABELLING", Edge.RICH + "removeStep(3) = 6; removeStep(0) = 5", "findLabelling(3) = 1");

        Edge.of(35, "The labels of the system do not change");
        Edge.change("LABELLING", TRIANGLE, "findLabelling(2) = 1");
        Edge.change("LABELLING", EIGHT_LOOPS, "findLabelling(3) = 1");
        Edge.leave(FORK, "findLabelling(3) = 0");

        Edge.of(35, "k: the number of labels, 1 to 3", "BAD_ARGUMENT");
        Edge.run(EIGHT_LOOPS + "findLabelling(1) = 1; findLabelling(2) = 1; findLabelling(3) = 1");
        Edge.run(THIRD_LABEL + """
            findLabelling(1) = 0; findLabelling(2) = 1; foundLabel(0) = 0; foundLabel(1) = 1; foundLabel(2) = 1
            foundLabel(3) = 0; foundLabel(4) = 0; foundLabel(5) = 1; findLabelling(3) = 1; foundLabel(0) = 0
            foundLabel(1) = 0; foundLabel(2) = 2; foundLabel(3) = 1; foundLabel(4) = 0; foundLabel(5) = 1
            """);
        Edge.range(Edge.RICH, "findLabelling(#) = BAD_ARGUMENT", 1, 3);
        Edge.range("", "findLabelling(#) = BAD_ARGUMENT", 1, 3);

        Edge.of(35, "0 if there is none, and the labelling remembered before stays");
        Edge.leave(FORK, "findLabelling(1) = 0; findLabelling(2) = 0; findLabelling(3) = 0; foundLabel(0) = NONE");
        Edge.leave(TRIANGLE + "findLabelling(2) = 1", "findLabelling(1) = 0; foundLabel(1) = 1; foundLabel(3) = 0");
        Edge.leave(Edge.RICH + "removeStep(2) = 6", "findLabelling(3) = 0; foundLabel(6) = 1");

        Edge.of(35, "TOO_LARGE if there are more than 8 steps");
        Edge.run(EIGHT_LOOPS + "findLabelling(2) = 1; addStep(0, 0, 0) = 8; findLabelling(2) = TOO_LARGE"
            + "; removeStep(4) = 8; findLabelling(2) = 1");
        Edge.leave(Edge.RICH + "addStep(3, 3, 0) = 7; addStep(3, 3, 0) = 8", "findLabelling(1) = TOO_LARGE"
            + "; findLabelling(3) = TOO_LARGE");
        Edge.leave(EIGHT_LOOPS + "findLabelling(1) = 1\n" + Edge.loops(8, 32), "findLabelling(1) = TOO_LARGE"
            + "; findLabelling(2) = TOO_LARGE");

        Edge.of(0, "When several errors apply, the one that is listed first is reported");
        Edge.leave(EIGHT_LOOPS + Edge.loops(8, 9), "findLabelling(0) = BAD_ARGUMENT; findLabelling(4) = BAD_ARGUMENT"
            + "; findLabelling(-1) = BAD_ARGUMENT");
    }

    private static void labellingCount() {
        Edge.of(36, "Returns the number of decreasing labellings", "Returns the number of labellings");
        Edge.run("labellingCount(1) = 1; labellingCount(2) = 1; labellingCount(3) = 1");
        Edge.run(FORK + "labellingCount(1) = 0; labellingCount(2) = 0; labellingCount(3) = 0");
        Edge.run(EIGHT_LOOPS + "labellingCount(1) = 1; labellingCount(2) = 256; labellingCount(3) = 6561");
        Edge.leave(Edge.RICH, "labellingCount(1) = 0");
        Edge.leave(TRIANGLE, "labellingCount(1) = 0; labellingCount(2) = 6; foundLabel(0) = NONE");

        Edge.of(36, "k: the number of labels, 1 to 3", "BAD_ARGUMENT");
        Edge.run(THIRD_LABEL + "labellingCount(1) = 0; labellingCount(2) = 5; labellingCount(3) = 114");
        Edge.range(Edge.RICH, "labellingCount(#) = BAD_ARGUMENT", 1, 3);
        Edge.range("", "labellingCount(#) = BAD_ARGUMENT", 1, 3);

        Edge.of(36, "TOO_LARGE if there are more than 8 steps");
        Edge.run(EIGHT_LOOPS + "labellingCount(2) = 256; addStep(0, 0, 0) = 8; labellingCount(2) = TOO_LARGE"
            + "; removeStep(8) = 8; labellingCount(2) = 256");
        Edge.leave(Edge.RICH + "addStep(3, 3, 0) = 7; addStep(3, 3, 0) = 8", "labellingCount(1) = TOO_LARGE"
            + "; labellingCount(3) = TOO_LARGE");
        Edge.leave(EIGHT_LOOPS + Edge.loops(8, 32), "labellingCount(1) = TOO_LARGE");

        Edge.of(0, "When several errors apply, the one that is listed first is reported");
        Edge.leave(EIGHT_LOOPS + Edge.loops(8, 9), "labellingCount(0) = BAD_ARGUMENT; labellingCount(4) = BAD_ARGUMENT"
            + "; labellingCount(-1) = BAD_ARGUMENT");
    }

    private static void foundLabel() {
        Edge.of(37, "Returns a label of the labelling found last", "Returns the label");
        Edge.leave(Edge.RICH, "foundLabel(0) = 0; foundLabel(5) = 0; foundLabel(6) = 1");
        Edge.run(THIRD_LABEL + "findLabelling(3) = 1; foundLabel(1) = 0; foundLabel(2) = 2; clearSystem() = 4"
            + "; foundLabel(2) = 2");

        Edge.of(37, "step: the step", "NONE if no labelling was found or that labelling has no such step");
        Edge.range(Edge.RICH, "foundLabel(#) = NONE", 0, 6);
        Edge.range(EIGHT_LOOPS + "findLabelling(1) = 1", "foundLabel(#) = NONE", 0, 7);
        Edge.leave(EIGHT_LOOPS, "foundLabel(0) = NONE; foundLabel(7) = NONE; foundLabel(-1) = NONE");
        Edge.leave("findLabelling(1) = 1", "foundLabel(0) = NONE; foundLabel(-1) = NONE");
        Edge.run("findLabelling(1) = 1; addObject() = 0; addStep(0, 0, 5) = 0; foundLabel(0) = NONE");
        Edge.run("addObject() = 0; addStep(0, 0, 5) = 0; findLabelling(1) = 1; removeStep(0) = 0; foundLabel(0) = 0"
            + "; foundLabel(1) = NONE");
    }

    private static void applyLabelling() {
        Edge.of(38, "Gives the steps of the system the labels of the labelling found last and calls useNaturalOrder");
        Edge.change("SYSTEM ORDER", Edge.RICH, "applyLabelling() = 5");
        Edge.run(TRIANGLE + """
            addGreater(0, 7) = 1; findLabelling(2) = 1; applyLabelling() = 4; label(0) = 0; label(1) = 1; label(2) = 0
            label(3) = 0; isGreater(0, 7) = 0; isGreater(7, 0) = 1; isGreater(1, 0) = 1; useNaturalOrder() = 28
            """);

        Edge.of(38, "Returns the number of steps whose label changed");
        Edge.run(EIGHT_LOOPS + "findLabelling(1) = 1; applyLabelling() = 7; applyLabelling() = 0; setLabel(7, 7) = 0"
            + "; applyLabelling() = 1");
        Edge.run("findLabelling(1) = 1; applyLabelling() = 0; useNaturalOrder() = 28");

        Edge.of(38, "NONE if no labelling was found or it has another number of steps than the system");
        Edge.leave(TRIANGLE, "applyLabelling() = NONE");
        Edge.leave("", "applyLabelling() = NONE");
        Edge.leave(Edge.RICH + "addStep(3, 3, 4) = 7", "applyLabelling() = NONE");
        Edge.leave(Edge.RICH + "removeStep(6) = 6", "applyLabelling() = NONE");
        Edge.leave(Edge.RICH + "clearSystem() = 5", "applyLabelling() = NONE");
        Edge.leave("findLabelling(1) = 1; addObject() = 0; addStep(0, 0, 5) = 0", "applyLabelling() = NONE");
        Edge.leave(EIGHT_LOOPS + "findLabelling(1) = 1\n" + Edge.loops(8, 9), "applyLabelling() = NONE");
    }
}
