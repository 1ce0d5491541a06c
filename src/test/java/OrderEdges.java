/** Promises 1 to 5, sentence by sentence: a new object and the label order. */
final class OrderEdges {
    private OrderEdges() {
    }

    static void run() {
        newObject();
        addGreater();
        removeGreater();
        isGreater();
        useNaturalOrder();
    }

    private static void newObject() {
        Edge.of(1, "Creates an empty system without label order and without rules");
        Edge.run("objectCount() = 0; stepCount() = 0");
        Edge.run("useNaturalOrder() = 0");
        Edge.run("clearRules() = 0");
        Edge.run(allLabels("isGreater(%d, %d) = 0"));
        Edge.run("type(abcabcab) = 8; explore() = 1; stepCount() = 0");
    }

    /** A call for each pair of two labels. */
    private static String allLabels(String call) {
        StringBuilder script = new StringBuilder();
        for (int pair = 0; pair < 64; pair++) {
            script.append(call.formatted(pair / 8, pair % 8)).append('\n');
        }
        return script.toString();
    }

    private static void addGreater() {
        Edge.of(2, "Adds a pair to the label order");
        Edge.change("ORDER", Edge.RICH, "addGreater(5, 4) = 1");
        Edge.run("addGreater(5, 4) = 1; isGreater(5, 4) = 1; isGreater(4, 5) = 0; useNaturalOrder() = 1");

        Edge.of(2, "greater: the greater label, 0 to 7", "BAD_ARGUMENT");
        Edge.run("addGreater(0, 5) = 1; isGreater(0, 5) = 1");
        Edge.run("addGreater(7, 5) = 1; isGreater(7, 5) = 1");
        Edge.range(Edge.RICH, "addGreater(#, 5) = BAD_ARGUMENT", 0, 7);

        Edge.of(2, "less: the lesser label, 0 to 7", "BAD_ARGUMENT");
        Edge.run("addGreater(5, 0) = 1; isGreater(5, 0) = 1");
        Edge.run("addGreater(5, 7) = 1; isGreater(5, 7) = 1");
        Edge.range(Edge.RICH, "addGreater(5, #) = BAD_ARGUMENT", 0, 7);

        Edge.of(2, "Returns 1 if the pair was added, 0 if the same pair was added before");
        Edge.run("addGreater(3, 1) = 1; addGreater(3, 1) = 0; addGreater(3, 1) = 0; useNaturalOrder() = 1");
        Edge.run("addGreater(3, 1) = 1; removeGreater(3, 1) = 1; addGreater(3, 1) = 1");
        Edge.run("addGreater(2, 1) = 1; addGreater(1, 0) = 1; addGreater(2, 0) = 1; addGreater(2, 0) = 0");
        Edge.leave(Edge.RICH, "addGreater(2, 1) = 0; addGreater(1, 0) = 0; addGreater(7, 3) = 0");

        Edge.of(2, "CYCLE if both labels are equal or the second one is greater than the first one already");
        for (int label = 0; label < 8; label++) {
            Edge.leave(Edge.RICH, "addGreater(" + label + ", " + label + ") = CYCLE");
        }
        Edge.leave(Edge.RICH, "addGreater(1, 2) = CYCLE; addGreater(0, 1) = CYCLE; addGreater(3, 7) = CYCLE");
        Edge.leave(Edge.RICH, "addGreater(0, 2) = CYCLE");
        Edge.change("ORDER", Edge.RICH, "addGreater(0, 7) = 1; addGreater(3, 2) = CYCLE; addGreater(3, 4) = 1");
        Edge.run("""
            addGreater(7, 6) = 1; addGreater(6, 5) = 1; addGreater(5, 4) = 1; addGreater(4, 3) = 1; addGreater(3, 2) = 1
            addGreater(2, 1) = 1; addGreater(1, 0) = 1; addGreater(0, 7) = CYCLE; removeGreater(4, 3) = 1
            addGreater(0, 7) = 1
            """);

        Edge.of(0, "When several errors apply, the one that is listed first is reported");
        Edge.leave(Edge.RICH, "addGreater(8, 8) = BAD_ARGUMENT; addGreater(-1, -1) = BAD_ARGUMENT");
    }

    private static void removeGreater() {
        Edge.of(3, "Removes a pair from the label order");
        Edge.change("ORDER", Edge.RICH, "removeGreater(2, 1) = 1");
        Edge.run("addGreater(5, 4) = 1; removeGreater(5, 4) = 1; isGreater(5, 4) = 0; useNaturalOrder() = 0");

        Edge.of(3, "greater: the greater label", "BAD_ARGUMENT");
        Edge.run("addGreater(0, 5) = 1; removeGreater(0, 5) = 1; addGreater(7, 5) = 1; removeGreater(7, 5) = 1");
        Edge.range(Edge.RICH, "removeGreater(#, 1) = BAD_ARGUMENT", 0, 7);

        Edge.of(3, "less: the lesser label", "BAD_ARGUMENT");
        Edge.run("addGreater(5, 0) = 1; removeGreater(5, 0) = 1; addGreater(5, 7) = 1; removeGreater(5, 7) = 1");
        Edge.range(Edge.RICH, "removeGreater(2, #) = BAD_ARGUMENT", 0, 7);

        Edge.of(3, "Returns 1 if the pair was removed, 0 if this pair had not been added");
        Edge.run(allLabels("removeGreater(%d, %d) = 0"));
        Edge.leave(Edge.RICH, "removeGreater(0, 1) = 0; removeGreater(2, 2) = 0; removeGreater(5, 4) = 0");
        Edge.leave(Edge.RICH, "removeGreater(2, 0) = 0; isGreater(2, 0) = 1");
        Edge.run("addGreater(2, 1) = 1; removeGreater(2, 1) = 1; removeGreater(2, 1) = 0");
        Edge.run("""
            addGreater(2, 1) = 1; addGreater(1, 0) = 1; addGreater(2, 0) = 1; removeGreater(2, 0) = 1; isGreater(2, 0) = 1
            removeGreater(1, 0) = 1; isGreater(2, 0) = 0
            """);
    }

    private static void isGreater() {
        Edge.of(4, "Returns whether a label is greater than another one in the label order");
        Edge.leave(Edge.RICH, allLabels("isGreater(%d, %d) = 0").replaceAll("\\((7, 3|2, 1|2, 0|1, 0)\\) = 0", "($1) = 1"));

        Edge.of(4, "greater: the first label", "BAD_ARGUMENT");
        Edge.run("addGreater(0, 5) = 1; isGreater(0, 5) = 1; addGreater(7, 5) = 1; isGreater(7, 5) = 1");
        Edge.range(Edge.RICH, "isGreater(#, 1) = BAD_ARGUMENT", 0, 7);

        Edge.of(4, "less: the second label", "BAD_ARGUMENT");
        Edge.run("addGreater(5, 0) = 1; isGreater(5, 0) = 1; addGreater(5, 7) = 1; isGreater(5, 7) = 1");
        Edge.range(Edge.RICH, "isGreater(2, #) = BAD_ARGUMENT", 0, 7);

        Edge.of(4, "Returns 1 if the first one is greater, otherwise 0");
        Edge.run("addGreater(4, 2) = 1; isGreater(4, 2) = 1; isGreater(2, 4) = 0; isGreater(4, 4) = 0; isGreater(2, 2) = 0");
    }

    private static void useNaturalOrder() {
        Edge.of(5, "Removes all pairs and then adds all 28 pairs...");
        Edge.change("ORDER", Edge.RICH, "useNaturalOrder() = 3");
        StringBuilder natural = new StringBuilder("addGreater(0, 7) = 1; addGreater(3, 4) = 1; useNaturalOrder() = 2\n");
        for (int pair = 0; pair < 64; pair++) {
            boolean lower = pair / 8 > pair % 8;
            natural.append("isGreater(%d, %d) = %d\n".formatted(pair / 8, pair % 8, lower ? 1 : 0));
        }
        for (int pair = 0; pair < 64; pair++) {
            boolean lower = pair / 8 > pair % 8;
            natural.append("removeGreater(%d, %d) = %d\n".formatted(pair / 8, pair % 8, lower ? 1 : 0));
        }
        Edge.run(natural + "useNaturalOrder() = 0");

        Edge.of(5, "Returns the number of pairs that were removed");
        Edge.run("useNaturalOrder() = 0; useNaturalOrder() = 28; useNaturalOrder() = 28");
        Edge.run("addGreater(0, 7) = 1; useNaturalOrder() = 1; removeGreater(7, 0) = 1; useNaturalOrder() = 27");
    }
}
