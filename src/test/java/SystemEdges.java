/** Promises 6 to 15, sentence by sentence: objects and steps. */
final class SystemEdges {
    private static final String FULL_OF_OBJECTS = Edge.RICH + Edge.objects(5, 16);
    private static final String FULL_OF_STEPS = Edge.RICH + Edge.loops(7, 32);

    private SystemEdges() {
    }

    static void run() {
        addObject();
        addStep();
        removeStep();
        setLabel();
        clearSystem();
        counts();
        partsOfSteps();
    }

    private static void addObject() {
        Edge.of(6, "Adds an object without a word");
        Edge.change("SYSTEM", Edge.RICH, "addObject() = 5");
        Edge.run("addObject() = 0; wordLength(0) = NONE; letter(0, 0) = NONE; wordLength(1) = BAD_ARGUMENT");
        Edge.run("type(a) = 1; explore() = 1; clearSystem() = 1; addObject() = 0; wordLength(0) = NONE");

        Edge.of(6, "Returns the number of the object");
        Edge.run(Edge.objects(0, 16));
        Edge.run("addObject() = 0; addObject() = 1; clearSystem() = 2; addObject() = 0");

        Edge.of(6, "FULL if there are 16 objects");
        Edge.run(Edge.objects(0, 15) + "addObject() = 15; addObject() = FULL; addObject() = FULL; objectCount() = 16");
        Edge.leave(FULL_OF_OBJECTS, "addObject() = FULL; addObject() = FULL");
        Edge.run(Edge.objects(0, 16) + "addObject() = FULL; clearSystem() = 16; addObject() = 0");
        Edge.run("type(a>b) = 3; addRule() = 0; type(aaaa) = 4; explore() = 16; addObject() = FULL; wordLength(15) = 4");
    }

    private static void addStep() {
        Edge.of(7, "Adds a step");
        Edge.change("SYSTEM", Edge.RICH, "addStep(4, 2, 3) = 7");
        Edge.run("addObject() = 0; addObject() = 1; addStep(1, 0, 6) = 0; source(0) = 1; target(0) = 0; label(0) = 6");

        Edge.of(7, "source: the source", "BAD_ARGUMENT");
        Edge.run(Edge.objects(0, 16) + "addStep(0, 3, 0) = 0; source(0) = 0; addStep(15, 3, 0) = 1; source(1) = 15");
        Edge.range(Edge.RICH, "addStep(#, 0, 0) = BAD_ARGUMENT", 0, 4);
        Edge.range(FULL_OF_OBJECTS, "addStep(#, 0, 0) = BAD_ARGUMENT", 0, 15);
        Edge.leave("", "addStep(0, 0, 0) = BAD_ARGUMENT");
        Edge.run("addObject() = 0; clearSystem() = 1; addStep(0, 0, 0) = BAD_ARGUMENT; stepCount() = 0");

        Edge.of(7, "target: the target", "BAD_ARGUMENT");
        Edge.run(Edge.objects(0, 16) + "addStep(3, 0, 0) = 0; target(0) = 0; addStep(3, 15, 0) = 1; target(1) = 15");
        Edge.range(Edge.RICH, "addStep(0, #, 0) = BAD_ARGUMENT", 0, 4);
        Edge.range(FULL_OF_OBJECTS, "addStep(0, #, 0) = BAD_ARGUMENT", 0, 15);

        Edge.of(7, "label: the label, 0 to 7", "BAD_ARGUMENT");
        Edge.run("addObject() = 0; addStep(0, 0, 0) = 0; label(0) = 0; addStep(0, 0, 7) = 1; label(1) = 7");
        Edge.range(Edge.RICH, "addStep(0, 0, #) = BAD_ARGUMENT", 0, 7);

        Edge.of(7, "Returns the number of the step");
        Edge.run("addObject() = 0\n" + Edge.loops(0, 32));
        Edge.run("addObject() = 0; addStep(0, 0, 0) = 0; addStep(0, 0, 0) = 1; removeStep(0) = 1; addStep(0, 0, 0) = 1");

        Edge.of(7, "FULL if there are 32 steps");
        Edge.run("addObject() = 0\n" + Edge.loops(0, 31) + "addStep(0, 0, 1) = 31; addStep(0, 0, 1) = FULL"
            + "; stepCount() = 32");
        Edge.leave(FULL_OF_STEPS, "addStep(0, 0, 0) = FULL; addStep(4, 4, 7) = FULL");
        Edge.run("addObject() = 0\n" + Edge.loops(0, 32) + "addStep(0, 0, 1) = FULL; removeStep(31) = 31"
            + "; addStep(0, 0, 1) = 31");
        Edge.run("type(a>b) = 3; addRule() = 0; type(aaaa) = 4; explore() = 16; stepCount() = 32; addStep(0, 1, 0) = FULL");

        Edge.of(0, "When several errors apply, the one that is listed first is reported");
        Edge.leave(FULL_OF_STEPS, """
            addStep(5, 0, 0) = BAD_ARGUMENT; addStep(-1, 0, 0) = BAD_ARGUMENT; addStep(0, 5, 0) = BAD_ARGUMENT
            addStep(0, -1, 0) = BAD_ARGUMENT; addStep(0, 0, 8) = BAD_ARGUMENT; addStep(0, 0, -1) = BAD_ARGUMENT
            """);
    }

    private static void removeStep() {
        Edge.of(8, "Removes a step");
        Edge.change("SYSTEM", Edge.RICH, "removeStep(3) = 6; objectCount() = 5; wordLength(3) = 1; wordLength(4) = NONE");
        Edge.run("addObject() = 0; addStep(0, 0, 3) = 0; removeStep(0) = 0; source(0) = BAD_ARGUMENT; reachable(0) = 1");

        Edge.of(8, "The numbers of all later steps decrease by 1");
        Edge.run("addObject() = 0\n" + Edge.loops(0, 32) + """
            removeStep(5) = 31; label(4) = 4; label(5) = 6; label(6) = 7; label(29) = 6; label(30) = 7
            label(31) = BAD_ARGUMENT
            """);
        Edge.run("addObject() = 0\n" + Edge.loops(0, 3) + "removeStep(0) = 2; label(0) = 1; label(1) = 2"
            + "; label(2) = BAD_ARGUMENT");
        Edge.run("addObject() = 0\n" + Edge.loops(0, 3) + "removeStep(2) = 2; label(0) = 0; label(1) = 1"
            + "; label(2) = BAD_ARGUMENT");
        Edge.run(Edge.objects(0, 3) + """
            addStep(0, 1, 4) = 0; addStep(1, 2, 5) = 1; addStep(2, 0, 6) = 2; removeStep(1) = 2; source(0) = 0; target(0) = 1
            label(0) = 4; source(1) = 2; target(1) = 0; label(1) = 6
            """);

        Edge.of(8, "step: the step", "BAD_ARGUMENT");
        Edge.range(Edge.RICH, "removeStep(#) = BAD_ARGUMENT", 0, 6);
        Edge.range(FULL_OF_STEPS, "removeStep(#) = BAD_ARGUMENT", 0, 31);
        Edge.leave("addObject() = 0", "removeStep(0) = BAD_ARGUMENT");

        Edge.of(8, "Returns the new number of steps");
        Edge.run("addObject() = 0\n" + Edge.loops(0, 2) + "removeStep(1) = 1; removeStep(0) = 0; stepCount() = 0");
        Edge.run("addObject() = 0\n" + Edge.loops(0, 32) + "removeStep(31) = 31; removeStep(0) = 30; stepCount() = 30");
    }

    private static void setLabel() {
        Edge.of(9, "Sets the label of a step");
        Edge.change("SYSTEM", Edge.RICH, "setLabel(2, 6) = 1");
        Edge.run("addObject() = 0\n" + Edge.loops(0, 3) + "setLabel(1, 5) = 1; label(0) = 0; label(1) = 5; label(2) = 2");

        Edge.of(9, "step: the step", "BAD_ARGUMENT");
        Edge.run("addObject() = 0\n" + Edge.loops(0, 32) + "setLabel(0, 4) = 0; label(0) = 4; setLabel(31, 5) = 7"
            + "; label(31) = 5");
        Edge.range(Edge.RICH, "setLabel(#, 6) = BAD_ARGUMENT", 0, 6);
        Edge.range(FULL_OF_STEPS, "setLabel(#, 6) = BAD_ARGUMENT", 0, 31);
        Edge.leave("addObject() = 0", "setLabel(0, 0) = BAD_ARGUMENT");

        Edge.of(9, "label: the new label, 0 to 7", "BAD_ARGUMENT");
        Edge.run("addObject() = 0; addStep(0, 0, 3) = 0; setLabel(0, 0) = 3; label(0) = 0; setLabel(0, 7) = 0"
            + "; label(0) = 7");
        Edge.range(Edge.RICH, "setLabel(0, #) = BAD_ARGUMENT", 0, 7);

        Edge.of(9, "Returns the previous label");
        Edge.run("addObject() = 0; addStep(0, 0, 7) = 0; setLabel(0, 0) = 7; setLabel(0, 0) = 0; setLabel(0, 3) = 0");
    }

    private static void clearSystem() {
        Edge.of(10, "Removes all objects and steps");
        Edge.run(Edge.objects(0, 16) + Edge.loops(0, 32) + """
            clearSystem() = 16; objectCount() = 0; stepCount() = 0; source(0) = BAD_ARGUMENT; reachable(0) = BAD_ARGUMENT
            addObject() = 0; stepCount() = 0; reachable(0) = 1; addStep(0, 0, 3) = 0; label(0) = 3
            """);

        Edge.of(10, "Label order, rules and the labelling found last stay");
        Edge.change("SYSTEM", Edge.RICH, "clearSystem() = 5");

        Edge.of(10, "Returns the number of objects that were removed");
        Edge.run("clearSystem() = 0; addObject() = 0; clearSystem() = 1; clearSystem() = 0");
        Edge.run(Edge.objects(0, 16) + "addObject() = FULL; clearSystem() = 16; clearSystem() = 0");
        Edge.leave("type(a>b) = 3; addRule() = 0; addGreater(1, 0) = 1", "clearSystem() = 0");
    }

    private static void counts() {
        Edge.of(11, "Returns the number of objects", "Returns the number of objects, 0 to 16");
        Edge.run("objectCount() = 0\n" + Edge.objects(0, 16) + "objectCount() = 16; addObject() = FULL; objectCount() = 16");
        Edge.run("objectCount() = 0; addObject() = 0; objectCount() = 1; clearSystem() = 1; objectCount() = 0");
        Edge.leave(Edge.RICH, "objectCount() = 5");
        Edge.run(Edge.RICH + "objectCount() = 5; label(0) = 0; label(6) = 7; source(6) = 0; target(6) = 4"
            + "; wordLength(0) = 2; stepCount() = 7");

        Edge.of(12, "Returns the number of steps", "Returns the number of steps, 0 to 32");
        Edge.run("stepCount() = 0; addObject() = 0\n" + Edge.loops(0, 32)
            + "stepCount() = 32; addStep(0, 0, 0) = FULL; stepCount() = 32; removeStep(0) = 31; stepCount() = 31");
        Edge.leave(Edge.RICH, "stepCount() = 7");
    }

    private static void partsOfSteps() {
        Edge.of(13, "Returns the source of a step", "Returns the source");
        Edge.leave(Edge.RICH, "source(0) = 0; source(3) = 2; source(5) = 4; source(6) = 0");
        Edge.run(Edge.objects(0, 16) + "addStep(15, 3, 2) = 0; source(0) = 15");
        Edge.of(13, "step: the step", "BAD_ARGUMENT");
        refusedSteps("source");

        Edge.of(14, "Returns the target of a step", "Returns the target");
        Edge.leave(Edge.RICH, "target(0) = 1; target(3) = 3; target(5) = 4; target(4) = 0");
        Edge.run(Edge.objects(0, 16) + "addStep(3, 15, 2) = 0; target(0) = 15");
        Edge.of(14, "step: the step", "BAD_ARGUMENT");
        refusedSteps("target");

        Edge.of(15, "Returns the label of a step", "Returns the label");
        Edge.leave(Edge.RICH, "label(0) = 0; label(3) = 0; label(5) = 6; label(6) = 7");
        Edge.of(15, "step: the step", "BAD_ARGUMENT");
        refusedSteps("label");
    }

    private static void refusedSteps(String method) {
        Edge.range(Edge.RICH, method + "(#) = BAD_ARGUMENT", 0, 6);
        Edge.range(FULL_OF_STEPS, method + "(#) = BAD_ARGUMENT", 0, 31);
        Edge.leave("addObject() = 0", method + "(0) = BAD_ARGUMENT");
        Edge.run("addObject() = 0; addStep(0, 0, 0) = 0; removeStep(0) = 0; " + method + "(0) = BAD_ARGUMENT");
    }
}
