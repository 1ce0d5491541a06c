/** Promises 16 to 24, sentence by sentence: paths, normal forms, termination and confluence. */
final class ReductionEdges {
    private static final String FULL_OF_OBJECTS = Edge.RICH + Edge.objects(5, 16);

    private ReductionEdges() {
    }

    static void run() {
        distance();
        reachable();
        normalForm();
        component();
        termination();
        confluence();
    }

    private static void refusedObjects(String call) {
        Edge.range(Edge.RICH, call + " = BAD_ARGUMENT", 0, 4);
        Edge.range(FULL_OF_OBJECTS, call + " = BAD_ARGUMENT", 0, 15);
        Edge.run(call.replace('#', '0') + " = BAD_ARGUMENT");
        Edge.run("addObject() = 0; clearSystem() = 1; " + call.replace('#', '0') + " = BAD_ARGUMENT");
    }

    private static void distance() {
        Edge.of(16, "Returns the length of the shortest path from an object to an object", "Returns the number of steps");
        Edge.run(Edge.line() + """
            distance(0, 15) = 15; distance(0, 0) = 0; distance(15, 15) = 0; distance(0, 1) = 1; addStep(0, 14, 7) = 15
            distance(0, 15) = 2; distance(0, 13) = 13; addStep(0, 15, 7) = 16; distance(0, 15) = 1
            """);
        Edge.run("addObject() = 0; addStep(0, 0, 0) = 0; distance(0, 0) = 0");
        Edge.leave(Edge.RICH, "distance(0, 3) = 2; distance(4, 3) = 3; distance(0, 4) = 1");

        Edge.of(16, "from: the first object", "BAD_ARGUMENT");
        Edge.run(Edge.line() + "distance(0, 15) = 15; distance(15, 15) = 0");
        refusedObjects("distance(#, 0)");

        Edge.of(16, "to: the last object", "BAD_ARGUMENT");
        Edge.run(Edge.line() + "distance(0, 0) = 0; distance(14, 15) = 1");
        refusedObjects("distance(0, #)");

        Edge.of(16, "NONE if there is no path");
        Edge.run(Edge.line() + "distance(15, 0) = NONE; distance(1, 0) = NONE; removeStep(14) = 14; distance(0, 15) = NONE");
        Edge.run("addObject() = 0; addObject() = 1; distance(0, 1) = NONE; addStep(1, 0, 0) = 0; distance(0, 1) = NONE");
        Edge.leave(Edge.RICH, "distance(3, 0) = NONE; distance(1, 2) = NONE");

        Edge.of(0, "When several errors apply, the one that is listed first is reported");
        Edge.leave(Edge.RICH, "distance(3, 5) = BAD_ARGUMENT; distance(5, 3) = BAD_ARGUMENT; distance(5, 5) = BAD_ARGUMENT");
    }

    private static void reachable() {
        Edge.of(17, "Returns the set of objects to which an object reduces", "Returns the set, bit b for object b");
        Edge.run(Edge.line() + "reachable(0) = 65535; reachable(15) = 32768; reachable(14) = 49152; reachable(1) = 65534");
        Edge.run("addObject() = 0; reachable(0) = 1; addStep(0, 0, 0) = 0; reachable(0) = 1");
        Edge.run("addObject() = 0; addObject() = 1; addStep(1, 0, 0) = 0; reachable(0) = 1; reachable(1) = 3");
        Edge.leave(Edge.RICH, "reachable(0) = 31; reachable(1) = 10; reachable(3) = 8");

        Edge.of(17, "object: the object", "BAD_ARGUMENT");
        refusedObjects("reachable(#)");
    }

    private static void normalForm() {
        Edge.of(18, "Returns the normal form of an object", "Returns the normal form to which it reduces");
        Edge.run("addObject() = 0; normalForm(0) = 0; addObject() = 1; addStep(0, 1, 0) = 0; normalForm(0) = 1"
            + "; normalForm(1) = 1");
        Edge.run(Edge.line() + "normalForm(0) = 15; normalForm(15) = 15");
        Edge.leave(Edge.RICH, "normalForm(0) = 3; normalForm(4) = 3; normalForm(3) = 3");
        Edge.run("addObject() = 0; addObject() = 1; addStep(1, 0, 0) = 0; addStep(1, 1, 0) = 1; normalForm(1) = 0");

        Edge.of(18, "object: the object", "BAD_ARGUMENT");
        refusedObjects("normalForm(#)");

        Edge.of(18, "NONE if there is none");
        Edge.leave(Edge.RICH + "addStep(3, 3, 0) = 7", "normalForm(0) = NONE; normalForm(3) = NONE; normalForm(4) = NONE");
        Edge.run("addObject() = 0; addStep(0, 0, 0) = 0; normalForm(0) = NONE");
        Edge.run(Edge.line() + "addStep(15, 14, 0) = 15; normalForm(0) = NONE; normalForm(15) = NONE");
        Edge.run(Edge.line() + "addStep(15, 15, 0) = 15; normalForm(0) = NONE; normalForm(15) = NONE");

        Edge.of(18, "AMBIGUOUS if there are several");
        Edge.run(Edge.objects(0, 4) + """
            addStep(0, 1, 0) = 0; normalForm(0) = 1; addStep(0, 2, 0) = 1; normalForm(0) = AMBIGUOUS; addStep(0, 3, 0) = 2
            normalForm(0) = AMBIGUOUS; normalForm(2) = 2
            """);
        Edge.run(Edge.objects(0, 16) + "addStep(0, 14, 0) = 0; addStep(0, 15, 0) = 1; normalForm(0) = AMBIGUOUS"
            + "; normalForm(15) = 15");
        Edge.leave(Edge.RICH + "removeStep(2) = 6", "normalForm(0) = AMBIGUOUS; normalForm(1) = 1");
        Edge.run(Edge.objects(0, 3) + "addStep(0, 1, 0) = 0; addStep(0, 1, 5) = 1; normalForm(0) = 1");
    }

    private static void component() {
        Edge.of(19, "Returns the lowest object that is convertible with an object", "Returns the lowest object");
        Edge.run(Edge.line() + "component(15) = 0; component(0) = 0; removeStep(14) = 14; component(15) = 15"
            + "; component(14) = 0");
        Edge.run("addObject() = 0; component(0) = 0; addObject() = 1; component(1) = 1; addStep(0, 1, 0) = 0"
            + "; component(1) = 0");
        Edge.run("addObject() = 0; addObject() = 1; addStep(1, 0, 0) = 0; component(1) = 0; component(0) = 0");
        Edge.leave(Edge.RICH + "addObject() = 5", "component(4) = 0; component(5) = 5; component(3) = 0");

        Edge.of(19, "object: the object", "BAD_ARGUMENT");
        refusedObjects("component(#)");
    }

    private static void termination() {
        Edge.of(20, "Returns whether the system terminates", "Returns 1 or 0");
        Edge.run("isTerminating() = 1; addObject() = 0; isTerminating() = 1; addStep(0, 0, 0) = 0; isTerminating() = 0");
        Edge.run(Edge.line() + "isTerminating() = 1; addStep(15, 0, 0) = 15; isTerminating() = 0; removeStep(7) = 15"
            + "; isTerminating() = 1");
        Edge.run(Edge.line() + "addStep(15, 15, 0) = 15; isTerminating() = 0");
        Edge.run("addObject() = 0; addObject() = 1; addStep(1, 1, 0) = 0; isTerminating() = 0; setLabel(0, 7) = 0"
            + "; isTerminating() = 0");
        Edge.run(Edge.objects(0, 16) + "addStep(15, 15, 0) = 0; isTerminating() = 0; removeStep(0) = 0"
            + "; isTerminating() = 1");
        Edge.leave(Edge.RICH, "isTerminating() = 0");

        Edge.of(21, "Returns the length of the longest path that starts at an object", "Returns the number of steps");
        Edge.run(Edge.line() + "longestPath(0) = 15; longestPath(15) = 0; longestPath(14) = 1; addStep(0, 15, 0) = 15"
            + "; longestPath(0) = 15");
        Edge.run("addObject() = 0; longestPath(0) = 0");
        Edge.leave(Edge.RICH, "longestPath(1) = 1; longestPath(3) = 0");

        Edge.of(21, "object: the object", "BAD_ARGUMENT");
        refusedObjects("longestPath(#)");

        Edge.of(21, "NONE if infinite paths start there");
        Edge.leave(Edge.RICH, "longestPath(0) = NONE; longestPath(4) = NONE");
        Edge.run("addObject() = 0; addStep(0, 0, 0) = 0; longestPath(0) = NONE");
        Edge.run(Edge.line() + "addStep(15, 15, 0) = 15; longestPath(0) = NONE; longestPath(15) = NONE");
        Edge.run(Edge.line() + "addStep(15, 0, 0) = 15; longestPath(0) = NONE; removeStep(15) = 15; longestPath(0) = 15");
        Edge.run(Edge.objects(0, 2) + "addStep(0, 0, 0) = 0; addStep(0, 1, 0) = 1; longestPath(1) = 0"
            + "; longestPath(0) = NONE");
    }

    private static void confluence() {
        Edge.of(22, "Returns whether the system is confluent", "Returns 1 or 0");
        Edge.run("isConfluent() = 1; addObject() = 0; isConfluent() = 1; addObject() = 1; isConfluent() = 1");
        Edge.run(Edge.objects(0, 3) + "addStep(0, 1, 0) = 0; isConfluent() = 1; addStep(0, 2, 0) = 1; isConfluent() = 0");
        Edge.run(Edge.objects(0, 16) + "addStep(15, 14, 0) = 0; addStep(15, 13, 0) = 1; isConfluent() = 0"
            + "; addStep(13, 14, 0) = 2; isConfluent() = 1");
        Edge.leave(Edge.RICH, "isConfluent() = 1");

        Edge.of(23, "Returns the first counterexample to confluence: the lexicographically smallest triple...");
        Edge.run(Edge.objects(0, 6) + """
            addStep(5, 3, 0) = 0; addStep(5, 4, 0) = 1; counterexample() = 1332; addStep(2, 5, 0) = 2; counterexample() = 564
            addStep(5, 1, 0) = 3; counterexample() = 531; addStep(3, 1, 0) = 4; counterexample() = 532
            """);

        Edge.of(23, "Returns 256 * a + 16 * b + c");
        Edge.run(Edge.objects(0, 16) + "addStep(15, 13, 0) = 0; addStep(15, 14, 0) = 1; counterexample() = 4062");
        Edge.run(Edge.objects(0, 16) + "addStep(0, 15, 0) = 0; addStep(0, 14, 0) = 1; counterexample() = 239");
        Edge.run(Edge.objects(0, 3) + "addStep(0, 2, 0) = 0; addStep(0, 1, 0) = 1; counterexample() = 18");
        Edge.run(Edge.objects(0, 3) + "addStep(2, 0, 0) = 0; addStep(2, 1, 0) = 1; counterexample() = 513");

        Edge.of(23, "NONE if the system is confluent");
        Edge.run("counterexample() = NONE; addObject() = 0; counterexample() = NONE; addStep(0, 0, 0) = 0"
            + "; counterexample() = NONE");
        Edge.run(Edge.line() + "counterexample() = NONE");
        Edge.leave(Edge.RICH, "counterexample() = NONE");
        Edge.leave(Edge.RICH + "removeStep(2) = 6", "counterexample() = 18");

        Edge.of(24, "Returns whether the system is locally confluent", "Returns 1 or 0");
        Edge.run("isLocallyConfluent() = 1; addObject() = 0; isLocallyConfluent() = 1");
        Edge.run(Edge.objects(0, 3) + "addStep(0, 1, 0) = 0; isLocallyConfluent() = 1; addStep(0, 2, 0) = 1"
            + "; isLocallyConfluent() = 0");
        Edge.run("addObject() = 0\n" + Edge.loops(0, 32) + "isLocallyConfluent() = 1");
        Edge.run(Edge.objects(0, 2) + Edge.loops(0, 31) + "isLocallyConfluent() = 1; addStep(0, 1, 0) = 31"
            + "; isLocallyConfluent() = 1");
        Edge.run(Edge.objects(0, 3) + Edge.loops(0, 30) + "addStep(0, 1, 0) = 30; addStep(0, 2, 0) = 31"
            + "; isLocallyConfluent() = 0");
        Edge.run(Edge.objects(0, 4) + """
            addStep(0, 1, 0) = 0; addStep(1, 0, 0) = 1; addStep(0, 2, 0) = 2; addStep(1, 3, 0) = 3; isLocallyConfluent() = 1
            isConfluent() = 0
            """);
        Edge.leave(Edge.RICH, "isLocallyConfluent() = 1");
    }
}
