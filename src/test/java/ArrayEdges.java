/** Promises 46 to 52, sentence by sentence: the arrays and the snapshot. */
final class ArrayEdges {
    private static final String ALL_THREE = Edge.RICH + "newArray(1, 16) = 1; newArray(2, 1) = 1"
        + "; setElement(1, 15, 4) = 1\n";

    private ArrayEdges() {
    }

    static void run() {
        newArray();
        setElement();
        element();
        saveReachable();
        compareReachable();
        saveSnapshot();
        restoreSnapshot();
    }

    private static void newArray() {
        Edge.of(46, "Creates an array of longs in place of one of three arrays, numbered 0 to 2, which are missing at "
            + "first");
        Edge.change("ARRAYS", Edge.RICH, "newArray(2, 4) = 1");
        Edge.change("ARRAYS", Edge.RICH, "newArray(0, 4) = 1");
        Edge.run("setElement(0, 0, 1) = NULL_ARRAY; setElement(1, 0, 1) = NULL_ARRAY; setElement(2, 0, 1) = NULL_ARRAY");
        Edge.run("compareReachable(0) = NULL_ARRAY; compareReachable(1) = NULL_ARRAY; compareReachable(2) = NULL_ARRAY");
        Edge.run("newArray(1, 2) = 1; element(1, 1) = 0; setElement(0, 0, 1) = NULL_ARRAY"
            + "; setElement(2, 0, 1) = NULL_ARRAY");
        Edge.run("""
            newArray(0, 1) = 1; newArray(1, 2) = 1; newArray(2, 3) = 1; setElement(0, 0, 5) = 1; setElement(1, 0, 6) = 1
            setElement(2, 0, 7) = 1; newArray(1, 1) = 1; element(0, 0) = 5; element(1, 0) = 0; element(2, 0) = 7
            element(1, 1) = MIN_LONG
            """);

        Edge.of(46, "All elements are 0");
        StringBuilder script = new StringBuilder("newArray(2, 16) = 1\n");
        for (int i = 0; i < 16; i++) {
            script.append("element(2, %d) = 0; setElement(2, %d, -9) = 1%n".formatted(i, i));
        }
        script.append("newArray(2, 3) = 1; element(2, 2) = 0; newArray(2, 16) = 1\n");
        for (int i = 0; i < 16; i++) {
            script.append("element(2, ").append(i).append(") = 0\n");
        }
        Edge.run(script + "element(2, 16) = MIN_LONG");

        Edge.of(46, "array: the array, 0 to 2",
            "BAD_ARGUMENT if there is no such array or size is greater than 16",
            "Returns 1");
        Edge.run("newArray(0, 1) = 1; element(0, 0) = 0; newArray(2, 1) = 1; element(2, 0) = 0; element(1, 0) = MIN_LONG");
        Edge.range(Edge.RICH, "newArray(#, 4) = BAD_ARGUMENT", 0, 2);

        Edge.of(46, "size: the number of elements, 0 to 16",
            "BAD_ARGUMENT if there is no such array or size is greater than 16");
        Edge.run("newArray(0, 0) = 1; element(0, 0) = MIN_LONG; setElement(0, 0, 1) = INDEX_OUT_OF_RANGE");
        Edge.run("newArray(0, 1) = 1; element(0, 0) = 0; element(0, 1) = MIN_LONG");
        Edge.run("newArray(0, 16) = 1; element(0, 15) = 0; element(0, 16) = MIN_LONG");
        Edge.leave(Edge.RICH, "newArray(0, 17) = BAD_ARGUMENT; newArray(1, 17) = BAD_ARGUMENT"
            + "; newArray(2, 17) = BAD_ARGUMENT");
        Edge.leave(Edge.RICH, "newArray(0, MAX_INT) = BAD_ARGUMENT; newArray(0, 32) = BAD_ARGUMENT"
            + "; newArray(0, 65536) = BAD_ARGUMENT");

        Edge.of(46, "NEGATIVE_SIZE if size is negative");
        Edge.leave(Edge.RICH, "newArray(0, -1) = NEGATIVE_SIZE; newArray(1, -1) = NEGATIVE_SIZE"
            + "; newArray(2, -1) = NEGATIVE_SIZE");
        Edge.leave(Edge.RICH, "newArray(0, MIN_INT) = NEGATIVE_SIZE; newArray(2, -16) = NEGATIVE_SIZE"
            + "; newArray(1, -17) = NEGATIVE_SIZE");

        Edge.of(0, "When several errors apply, the one that is listed first is reported");
        Edge.leave(Edge.RICH, "newArray(3, -1) = BAD_ARGUMENT; newArray(-1, -1) = BAD_ARGUMENT"
            + "; newArray(3, 17) = BAD_ARGUMENT; newArray(MIN_INT, MIN_INT) = BAD_ARGUMENT");
    }

    private static void setElement() {
        Edge.of(47, "Sets an element of an array", "Returns 1");
        Edge.change("ARRAYS", Edge.RICH, "setElement(0, 0, 1) = 1");
        Edge.run("newArray(0, 3) = 1; newArray(1, 3) = 1; setElement(0, 1, 8) = 1; element(0, 0) = 0; element(0, 1) = 8"
            + "; element(0, 2) = 0; element(1, 1) = 0");

        Edge.of(47, "array: the array", "BAD_ARGUMENT if there is no such array");
        Edge.run("newArray(0, 1) = 1; newArray(2, 1) = 1; setElement(0, 0, 3) = 1; setElement(2, 0, 4) = 1"
            + "; element(0, 0) = 3; element(2, 0) = 4");
        Edge.range(ALL_THREE, "setElement(#, 0, 5) = BAD_ARGUMENT", 0, 2);
        Edge.range("", "setElement(#, 0, 5) = BAD_ARGUMENT", 0, 2);

        Edge.of(47, "NULL_ARRAY");
        Edge.leave(Edge.RICH, "setElement(2, 0, 1) = NULL_ARRAY; setElement(2, 15, 1) = NULL_ARRAY");
        Edge.leave("", "setElement(0, 0, 1) = NULL_ARRAY; setElement(1, 0, 1) = NULL_ARRAY"
            + "; setElement(2, 0, 1) = NULL_ARRAY");

        Edge.of(47, "i: the index", "INDEX_OUT_OF_RANGE");
        Edge.run("newArray(1, 16) = 1; setElement(1, 0, 3) = 1; element(1, 0) = 3; setElement(1, 15, 4) = 1"
            + "; element(1, 15) = 4");
        Edge.range(ALL_THREE, "setElement(0, #, 5) = INDEX_OUT_OF_RANGE", 0, 2);
        Edge.range(ALL_THREE, "setElement(1, #, 5) = INDEX_OUT_OF_RANGE", 0, 15);
        Edge.range(ALL_THREE, "setElement(2, #, 5) = INDEX_OUT_OF_RANGE", 0, 0);
        Edge.leave(Edge.RICH, "setElement(1, 0, 5) = INDEX_OUT_OF_RANGE; setElement(1, -1, 5) = INDEX_OUT_OF_RANGE");
        Edge.run("newArray(0, 3) = 1; newArray(0, 2) = 1; setElement(0, 2, 1) = INDEX_OUT_OF_RANGE");

        Edge.of(47, "value: the value, any long");
        Edge.run("""
            newArray(0, 1) = 1; setElement(0, 0, MIN_LONG) = 1; element(0, 0) = MIN_LONG; setElement(0, 0, MAX_LONG) = 1
            element(0, 0) = MAX_LONG; setElement(0, 0, -1) = 1; element(0, 0) = -1; setElement(0, 0, 4294967296) = 1
            element(0, 0) = 4294967296; setElement(0, 0, 2147483648) = 1; element(0, 0) = 2147483648
            setElement(0, 0, -2147483649) = 1; element(0, 0) = -2147483649; setElement(0, 0, 0) = 1; element(0, 0) = 0
            """);

        Edge.of(0, "When several errors apply, the one that is listed first is reported");
        Edge.leave(Edge.RICH, "setElement(3, -1, 1) = BAD_ARGUMENT; setElement(-1, 16, 1) = BAD_ARGUMENT");
        Edge.leave(Edge.RICH, "setElement(2, -1, 1) = NULL_ARRAY; setElement(2, 16, 1) = NULL_ARRAY");
    }

    private static void element() {
        Edge.of(48, "Returns an element of an array", "Returns the element");
        Edge.leave(Edge.RICH, "element(0, 0) = 0; element(0, 1) = -7; element(0, 2) = MAX_LONG");

        String absent = "Long.MIN_VALUE if there is no such array, it is missing, or it has no such element";
        Edge.of(48, "array: the array", absent);
        Edge.range(ALL_THREE, "element(#, 0) = MIN_LONG", 0, 2);
        Edge.leave(Edge.RICH, "element(2, 0) = MIN_LONG; element(2, 15) = MIN_LONG; element(2, -1) = MIN_LONG");
        Edge.leave("", "element(0, 0) = MIN_LONG; element(1, 0) = MIN_LONG; element(2, 0) = MIN_LONG"
            + "; element(3, 0) = MIN_LONG");

        Edge.of(48, "i: the index", absent);
        Edge.run("newArray(2, 16) = 1; setElement(2, 0, 3) = 1; setElement(2, 15, 4) = 1; element(2, 0) = 3"
            + "; element(2, 15) = 4");
        Edge.range(ALL_THREE, "element(0, #) = MIN_LONG", 0, 2);
        Edge.range(ALL_THREE, "element(1, #) = MIN_LONG", 0, 15);
        Edge.range(ALL_THREE, "element(2, #) = MIN_LONG", 0, 0);
        Edge.leave(Edge.RICH, "element(1, 0) = MIN_LONG; element(1, -1) = MIN_LONG");
    }

    private static void saveReachable() {
        Edge.of(49, "Replaces an array by a new one that has for each object a the set...", "Returns the number of objects");
        Edge.change("ARRAYS", Edge.RICH, "saveReachable(0) = 5");
        Edge.change("ARRAYS", Edge.RICH, "saveReachable(2) = 5");
        Edge.run(Edge.RICH + """
            saveReachable(0) = 5; element(0, 0) = 31; element(0, 1) = 10; element(0, 2) = 12; element(0, 3) = 8
            element(0, 4) = 31; element(0, 5) = MIN_LONG; element(2, 0) = MIN_LONG
            setElement(1, 0, 1) = INDEX_OUT_OF_RANGE
            """);
        Edge.run("newArray(0, 16) = 1; saveReachable(0) = 0; element(0, 0) = MIN_LONG"
            + "; setElement(0, 0, 1) = INDEX_OUT_OF_RANGE");
        Edge.run("saveReachable(2) = 0; setElement(2, 0, 1) = INDEX_OUT_OF_RANGE; setElement(1, 0, 1) = NULL_ARRAY");
        Edge.run(Edge.line() + "newArray(1, 2) = 1; saveReachable(1) = 16; element(1, 0) = 65535; element(1, 15) = 32768"
            + "; element(1, 14) = 49152; element(1, 16) = MIN_LONG");
        Edge.run("newArray(1, 16) = 1; setElement(1, 1, 9) = 1; addObject() = 0; saveReachable(1) = 1; element(1, 0) = 1"
            + "; element(1, 1) = MIN_LONG; newArray(1, 2) = 1; element(1, 0) = 0; element(1, 1) = 0");

        Edge.of(49, "array: the array", "BAD_ARGUMENT");
        Edge.run("addObject() = 0; saveReachable(0) = 1; saveReachable(2) = 1; element(0, 0) = 1; element(2, 0) = 1"
            + "; element(1, 0) = MIN_LONG");
        Edge.range(ALL_THREE, "saveReachable(#) = BAD_ARGUMENT", 0, 2);
        Edge.range(Edge.RICH, "saveReachable(#) = BAD_ARGUMENT", 0, 2);
    }

    private static void compareReachable() {
        Edge.of(50, "Compares an array with what saveReachable would store", "NONE if they do not differ");
        Edge.leave(Edge.RICH + "saveReachable(2) = 5", "compareReachable(2) = NONE; compareReachable(0) = 0"
            + "; compareReachable(1) = 0");
        Edge.run("saveReachable(0) = 0; compareReachable(0) = NONE; newArray(1, 0) = 1; compareReachable(1) = NONE");
        Edge.run(Edge.line() + "saveReachable(1) = 16; compareReachable(1) = NONE");

        Edge.of(50, "A missing element differs");
        Edge.run(Edge.line() + "newArray(0, 0) = 1; compareReachable(0) = 0; clearSystem() = 16"
            + "; compareReachable(0) = NONE");
        Edge.run(Edge.objects(0, 15) + "saveReachable(0) = 15; addObject() = 15; compareReachable(0) = 15");
        Edge.run("addObject() = 0; saveReachable(0) = 1; addObject() = 1; compareReachable(0) = 1");

        Edge.of(50, "array: the array", "BAD_ARGUMENT");
        Edge.run("saveReachable(0) = 0; saveReachable(2) = 0; compareReachable(0) = NONE; compareReachable(2) = NONE");
        Edge.range(ALL_THREE, "compareReachable(#) = BAD_ARGUMENT", 0, 2);
        Edge.range(Edge.RICH, "compareReachable(#) = BAD_ARGUMENT", 0, 2);

        Edge.of(50, "NULL_ARRAY");
        Edge.leave(Edge.RICH, "compareReachable(2) = NULL_ARRAY");
        Edge.leave("", "compareReachable(0) = NULL_ARRAY; compareReachable(1) = NULL_ARRAY"
            + "; compareReachable(2) = NULL_ARRAY");

        Edge.of(50, "Returns the lowest index at which both differ");
        Edge.run(Edge.line() + """
            saveReachable(0) = 16; setElement(0, 15, 0) = 1; compareReachable(0) = 15; setElement(0, 7, 0) = 1
            compareReachable(0) = 7; setElement(0, 0, 0) = 1; compareReachable(0) = 0; setElement(0, 0, 65535) = 1
            compareReachable(0) = 7
            """);
        Edge.run("addObject() = 0; newArray(0, 1) = 1; setElement(0, 0, 4294967297) = 1; compareReachable(0) = 0"
            + "; setElement(0, 0, 1) = 1"
            + "; compareReachable(0) = NONE; setElement(0, 0, MIN_LONG) = 1; compareReachable(0) = 0"
            + "; setElement(0, 0, -1) = 1; compareReachable(0) = 0");

        Edge.of(0, "An element of an array for an object that does not exist differs");
        Edge.run("newArray(0, 1) = 1; compareReachable(0) = 0; newArray(0, 16) = 1; compareReachable(0) = 0");
        Edge.run("addObject() = 0; newArray(0, 2) = 1; setElement(0, 0, 1) = 1; compareReachable(0) = 1");
        Edge.run(Edge.objects(0, 16) + "saveReachable(0) = 16"
            + "; clearSystem() = 16\n" + Edge.objects(0, 15) + "compareReachable(0) = 15");
    }

    private static void saveSnapshot() {
        Edge.of(51, "Saves objects, words, steps, label order and rules, in place of an earlier snapshot",
            "Returns the number of objects");
        Edge.change("SNAPSHOT", Edge.RICH, "saveSnapshot() = 5");
        Edge.run("saveSnapshot() = 0; addObject() = 0; saveSnapshot() = 1");
        Edge.run(Edge.objects(0, 16) + Edge.loops(0, 32) + "saveSnapshot() = 16; clearSystem() = 16"
            + "; restoreSnapshot() = 16; stepCount() = 32; label(31) = 7");
        saved("addObject() = 5", "objectCount() = 6; wordLength(5) = NONE", "clearSystem() = 6");
        saved("objectCount() = 5", "wordLength(0) = 2; letter(0, 1) = 98; wordLength(4) = NONE", "type(c) = 3"
            + "; explore() = 4");
        saved("setLabel(6, 4) = 7", "label(6) = 4; stepCount() = 7", "removeStep(6) = 6");
        saved("addGreater(4, 5) = 1", "isGreater(4, 5) = 1; removeGreater(4, 5) = 1"
            + "; useNaturalOrder() = 3", "removeGreater(4, 5) = 1");
        saved("type(>) = 3; addRule() = 3", "clearRules() = 4", "clearRules() = 4");
        Edge.run("""
            type(ab>c) = 4; addRule() = 0; saveSnapshot() = 0; clearRules() = 1; type(c>ba) = 4; addRule() = 0
            restoreSnapshot() = 0; type(ab) = 2; explore() = 2; wordLength(1) = 1; letter(1, 0) = 99; type(c) = 1
            explore() = 1
            """);
    }

    /** What is set before a snapshot, shows again behind it, whatever came between. */
    private static void saved(String set, String shown, String between) {
        Edge.run(Edge.RICH + set + "\nsaveSnapshot() = " + (set.startsWith("addObject") ? 6 : 5) + "\n" + between
            + "\nrestoreSnapshot() = " + (set.startsWith("addObject") ? 6 : 5) + "\n" + shown);
    }

    private static void restoreSnapshot() {
        Edge.of(52, "Restores what was saved by the latest snapshot, which is kept", "Returns the number of objects");
        Edge.change("SYSTEM ORDER RULES", Edge.RICH, "restoreSnapshot() = 5");
        Edge.leave(Edge.RICH + "restoreSnapshot() = 5", "restoreSnapshot() = 5");
        Edge.leave(Edge.RICH + "saveSnapshot() = 5", "restoreSnapshot() = 5");
        Edge.run("saveSnapshot() = 0; addObject() = 0; restoreSnapshot() = 0; objectCount() = 0; addObject() = 0"
            + "; restoreSnapshot() = 0");
        Edge.run("addObject() = 0; saveSnapshot() = 1; clearSystem() = 1; saveSnapshot() = 0; addObject() = 0"
            + "; restoreSnapshot() = 0; objectCount() = 0");
        Edge.run(Edge.objects(0, 16) + "saveSnapshot() = 16; clearSystem() = 16; restoreSnapshot() = 16"
            + "; objectCount() = 16; addObject() = FULL");

        Edge.of(52, "NONE if no snapshot was saved");
        Edge.leave("", "restoreSnapshot() = NONE");
        Edge.leave(Edge.RICH.replace("saveSnapshot() = 5;", ""), "restoreSnapshot() = NONE; restoreSnapshot() = NONE");
    }
}
