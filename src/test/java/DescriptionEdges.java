/** The sentences of the Description, one by one. */
final class DescriptionEdges {
    private DescriptionEdges() {
    }

    static void run() {
        calls();
        systems();
        labelOrder();
        reduction();
        localPeaks();
        suitablePaths();
        valleys();
        labellings();
        stringRewriting();
        exploration();
        details();
        constants();
        errors();
    }

    private static void calls() {
        Edge.of(0, "An object is used for at most 512 calls after it has been made; what later calls answer is free");
        Edge.run(Edge.repeat("addObject() = 0; clearSystem() = 1", 255) + "addObject() = 0; objectCount() = 1");
        Edge.run(Edge.repeat("type(abca) = 4; explore() = 1", 102) + "wordLength(0) = 4; letter(0, 3) = 97");
        Edge.run(Edge.objects(0, 1) + Edge.loops(0, 8) + Edge.repeat("labellingCount(3) = 6561",
            20) + "findLabelling(3) = 1");
    }

    private static void systems() {
        Edge.of(0, "A system has objects, numbered from 0 (at most 16), and steps, numbered from 0 (at most 32)");
        Edge.run(Edge.objects(0, 16) + Edge.loops(0, 32) + "addObject() = FULL; addStep(0, 0, 0) = FULL"
            + "; objectCount() = 16; stepCount() = 32");
        Edge.run(Edge.objects(0, 16) + Edge.loops(0, 32) + "addStep(15, 15, 0) = FULL; removeStep(0) = 31"
            + "; addStep(15, 15, 0) = 31; source(31) = 15");

        Edge.of(0, "A step leads from its source to its target, which are objects and may be equal, and has a label from "
            + "0 to 7");
        Edge.run("addObject() = 0; addStep(0, 0, 7) = 0; source(0) = 0; target(0) = 0; label(0) = 7"
            + "; setLabel(0, 8) = BAD_ARGUMENT");

        Edge.of(0, "Several steps may have the same source and target");
        Edge.run("addObject() = 0; addObject() = 1; addStep(0, 1, 3) = 0; addStep(0, 1, 3) = 1; addStep(0, 1, 4) = 2"
            + "; stepCount() = 3; peakCount() = 3");

        Edge.of(0, "A new object of this class has an empty system");
        Edge.run("objectCount() = 0; stepCount() = 0; reachable(0) = BAD_ARGUMENT; source(0) = BAD_ARGUMENT"
            + "; peakCount() = 0");
    }

    private static void labelOrder() {
        Edge.of(0, "The label order is a strict partial order on the labels 0 to 7",
            "It is given by pairs: greater(i, j) says...");
        Edge.run("addGreater(0, 7) = 1; isGreater(0, 7) = 1; isGreater(7, 0) = 0; isGreater(0, 0) = 0; isGreater(7, 7) = 0"
            + "; isGreater(1, 0) = 0");

        Edge.of(0, "The order is the transitive closure of these pairs, and no pair is accepted that would make a label "
            + "greater than itself");
        Edge.run("""
            addGreater(3, 0) = 1; addGreater(0, 5) = 1; addGreater(5, 1) = 1; addGreater(1, 7) = 1; addGreater(7, 2) = 1
            addGreater(2, 6) = 1; addGreater(6, 4) = 1; isGreater(3, 4) = 1; isGreater(0, 4) = 1; isGreater(3, 5) = 1
            isGreater(4, 3) = 0; addGreater(4, 3) = CYCLE; addGreater(4, 6) = CYCLE; addGreater(3, 3) = CYCLE
            addGreater(3, 4) = 1; isGreater(3, 3) = 0; isGreater(4, 4) = 0
            """);

        Edge.of(0, "At first there are no pairs");
        Edge.run("useNaturalOrder() = 0");

        Edge.of(0, "Below, l < m means that label m is greater than label l in this order");
        String joinedBelow = Edge.objects(0, 3) + "addStep(0, 1, 1) = 0; addStep(0, 2, 5) = 1; addStep(1, 2, 4) = 2\n";
        Edge.run(joinedBelow + "isDecreasing(0) = 0; addGreater(1, 4) = 1; isDecreasing(0) = 1");
        Edge.run(joinedBelow + "addGreater(4, 1) = 1; isDecreasing(0) = 0");
    }

    private static void reduction() {
        Edge.of(0, "Object a reduces to object b if there is a path of steps from a to b; the empty path is allowed");
        Edge.run("addObject() = 0; reachable(0) = 1; distance(0, 0) = 0; normalForm(0) = 0");
        Edge.run(Edge.line() + "reachable(0) = 65535; reachable(15) = 32768");

        Edge.of(0, "A normal form is an object that is the source of no step");
        Edge.run("addObject() = 0; normalForm(0) = 0; addStep(0, 0, 0) = 0; normalForm(0) = NONE; removeStep(0) = 0"
            + "; normalForm(0) = 0");

        Edge.of(0, "The system terminates if it has no infinite path, that is, no cycle of steps");
        Edge.run("addObject() = 0; addObject() = 1; addStep(0, 1, 0) = 0; isTerminating() = 1; addStep(1, 0, 0) = 1"
            + "; isTerminating() = 0");
        Edge.run("addObject() = 0; addObject() = 1; addStep(0, 1, 0) = 0; addStep(0, 1, 0) = 1; isTerminating() = 1");

        Edge.of(0, "Two objects are joinable if both reduce to a common object");
        Edge.run(Edge.objects(0, 4) + """
            addStep(0, 1, 0) = 0; addStep(0, 2, 0) = 1; isLocallyConfluent() = 0; addStep(3, 1, 0) = 2; addStep(3, 2, 0) = 3
            isLocallyConfluent() = 0; addStep(1, 3, 0) = 4; isLocallyConfluent() = 1
            """);

        Edge.of(0, "Two objects are convertible if they are connected by steps in any direction");
        Edge.run(Edge.objects(0, 4) + "addStep(0, 1, 0) = 0; addStep(2, 1, 0) = 1; component(2) = 0; component(3) = 3"
            + "; addStep(2, 3, 0) = 2; component(3) = 0");

        Edge.of(0, "The system is confluent if, for all objects a, b and c such that a reduces to b and to c, the objects "
            + "b and c are joinable");
        Edge.run(Edge.objects(0, 4) + """
            addStep(0, 1, 0) = 0; addStep(1, 2, 0) = 1; isConfluent() = 1; addStep(1, 3, 0) = 2; isConfluent() = 0
            addStep(2, 3, 0) = 3; isConfluent() = 1; addStep(3, 0, 0) = 4; isConfluent() = 1
            """);
    }

    private static void localPeaks() {
        Edge.of(0, "A local peak is a pair of two different steps with the same source; the first one has the lower number");
        Edge.run("addObject() = 0; addStep(0, 0, 0) = 0; peakCount() = 0; addStep(0, 0, 0) = 1; peakCount() = 1"
            + "; peakStep(0, 0) = 0; peakStep(0, 1) = 1");
        Edge.run("addObject() = 0; addObject() = 1; addStep(0, 1, 0) = 0; addStep(1, 1, 0) = 1; peakCount() = 0");

        Edge.of(0, "Local peaks are numbered from 0: they are ordered by the first step, then by the second step");
        Edge.run(Edge.objects(0, 2) + """
            addStep(1, 0, 0) = 0; addStep(0, 0, 0) = 1; addStep(0, 1, 0) = 2; addStep(1, 1, 0) = 3; addStep(1, 0, 0) = 4
            peakCount() = 4; peakStep(0, 0) = 0; peakStep(0, 1) = 3; peakStep(1, 0) = 0; peakStep(1, 1) = 4
            peakStep(2, 0) = 1; peakStep(2, 1) = 2; peakStep(3, 0) = 3; peakStep(3, 1) = 4
            """);

        Edge.of(0, "The left side of a local peak belongs to its first step, the right side to its second step");
        Edge.run(Edge.objects(0, 3) + """
            addStep(0, 1, 5) = 0; addStep(0, 2, 6) = 1; addStep(1, 2, 6) = 2; joinLength(0, 0) = 1; joinLength(0, 1) = 0
            joinStep(0, 0, 0) = 2; joinStep(0, 1, 0) = NONE
            """);

        Edge.of(0, "The system is locally confluent if for every local peak the targets of both steps are joinable");
        Edge.run(Edge.objects(0, 4) + """
            addStep(3, 3, 0) = 0; addStep(3, 3, 0) = 1; addStep(0, 1, 0) = 2; isLocallyConfluent() = 1; addStep(0, 2, 0) = 3
            isLocallyConfluent() = 0; addStep(2, 1, 0) = 4; isLocallyConfluent() = 1
            """);
    }

    /** Peak 0 has own 1 and other 2 on the left side, which starts at object 1; nothing leaves object 2. */
    private static String left(String steps) {
        return Edge.objects(0, 8) + "addStep(0, 1, 1) = 0; addStep(0, 2, 2) = 1; addGreater(1, 3) = 1"
            + "; addGreater(2, 4) = 1\n" + steps;
    }

    /** A path from object 1 to object 2 with these labels. */
    private static String path(int... labels) {
        StringBuilder script = new StringBuilder();
        for (int i = 0; i < labels.length; i++) {
            int from = i == 0 ? 1 : i + 2;
            int to = i == labels.length - 1 ? 2 : i + 3;
            script.append("addStep(%d, %d, %d) = %d%n".formatted(from, to, labels[i], i + 2));
        }
        return script.toString();
    }

    private static void suitablePaths() {
        Edge.of(0, "For one side of a local peak let own be the label of the step of this side and other...",
            "A suitable path of this side is a path from the target of its step that consists of three parts...");
        int[][] suitable = {
            // 3 is below own, 4 is below other, 2 is other.
            {3}, {3, 3, 3}, {2}, {4}, {4, 4, 4}, {3, 2}, {3, 3, 2}, {2, 3}, {2, 4}, {3, 2, 4}, {3, 2, 3, 4},
            {3, 3, 2, 4, 3}, {3, 4, 3}, {4, 3, 4}
        };
        for (int[] labels : suitable) {
            Edge.run(left(path(labels)) + "isDecreasing(0) = 1; valley(0) = 2; joinLength(0, 1) = 0; joinLength(0, 0) = "
                + labels.length);
        }
        int[][] unsuitable = {
            {1}, {5}, {2, 2}, {4, 2}, {3, 4, 2}, {2, 3, 2}, {2, 4, 2}, {3, 2, 2}, {3, 1}, {1, 2}, {2, 1}, {4, 5},
            {3, 2, 4, 2}, {3, 3, 5}
        };
        for (int[] labels : unsuitable) {
            Edge.run(left(path(labels)) + "isDecreasing(0) = 0; valley(0) = NONE; joinLength(0, 0) = NONE");
        }

        // Between each two of the objects 1, 3, 4, ... 14, 2 there are two steps: a long path, and many others of its length.
        StringBuilder twice = new StringBuilder(Edge.objects(0, 15) + "addGreater(1, 3) = 1; addStep(0, 1, 1) = 0"
            + "; addStep(0, 2, 2) = 1\n");
        for (int step = 2; step < 28; step++) {
            int from = step / 2 == 1 ? 1 : step / 2 + 1;
            int to = step / 2 == 13 ? 2 : step / 2 + 2;
            twice.append("addStep(%d, %d, 3) = %d%n".formatted(from, to, step));
        }
        Edge.run(twice + "isDecreasing(0) = 1; valley(0) = 2; joinLength(0, 0) = 13; joinStep(0, 0, 0) = 2"
            + "; joinStep(0, 0, 12) = 26");

        Edge.of(0, "A local peak is decreasing if some object is the end of a suitable path of the left side and of a "
            + "suitable path of the right side");
        Edge.run(left("") + "isDecreasing(0) = 0; addStep(1, 3, 3) = 2; isDecreasing(0) = 0; addStep(2, 3, 3) = 3"
            + "; isDecreasing(0) = 1; valley(0) = 3");
        Edge.run("addObject() = 0; addObject() = 1; addStep(0, 1, 6) = 0; addStep(0, 1, 7) = 1; isDecreasing(0) = 1"
            + "; valley(0) = 1");

        Edge.of(0, "The system is locally decreasing if all its local peaks are decreasing",
            "A system that is locally decreasing is confluent");
        Edge.run(Edge.objects(0, 3) + """
            firstFailure() = NONE; addStep(0, 1, 0) = 0; addStep(0, 1, 0) = 1; firstFailure() = NONE; isConfluent() = 1
            addStep(0, 2, 0) = 2; firstFailure() = 1; isConfluent() = 0; addStep(2, 1, 0) = 3; firstFailure() = NONE
            isConfluent() = 1
            """);
    }

    private static void valleys() {
        Edge.of(0, "The valley of a decreasing peak is the object for which the sum of the lengths of the shortest "
            + "suitable paths of both sides...");
        String twoValleys = Edge.objects(0, 6) + "addGreater(1, 0) = 1; addStep(0, 4, 1) = 0; addStep(0, 5, 1) = 1"
            + "; addStep(4, 2, 0) = 2; addStep(5, 2, 0) = 3\n";
        Edge.run(twoValleys + "valley(0) = 2; addStep(4, 1, 0) = 4; addStep(5, 1, 0) = 5; valley(0) = 1"
            + "; addStep(4, 3, 0) = 6; addStep(5, 3, 0) = 7; valley(0) = 1");
        Edge.run(twoValleys + "addStep(2, 1, 0) = 4; valley(0) = 2; addStep(4, 5, 0) = 5; valley(0) = 5"
            + "; addStep(5, 4, 0) = 6; valley(0) = 4");
        Edge.run(twoValleys + "addStep(4, 0, 0) = 4; addStep(5, 0, 0) = 5; valley(0) = 0");

        Edge.of(0, "The joining path of a side is the shortest suitable path to the valley; among several the one that is "
            + "lexicographically smallest...");
        Edge.run(Edge.objects(0, 5) + """
            addGreater(1, 0) = 1; addStep(0, 1, 1) = 0; addStep(0, 2, 1) = 1; addStep(4, 2, 0) = 2; addStep(1, 3, 0) = 3
            addStep(1, 4, 0) = 4; addStep(3, 2, 0) = 5; joinLength(0, 0) = 2; joinStep(0, 0, 0) = 3; joinStep(0, 0, 1) = 5
            addStep(3, 2, 0) = 6; joinStep(0, 0, 1) = 5; addStep(1, 2, 0) = 7; joinLength(0, 0) = 1; joinStep(0, 0, 0) = 7
            """);
        Edge.run(Edge.objects(0, 3) + "addStep(0, 1, 1) = 0; addStep(0, 2, 1) = 1; addStep(1, 2, 1) = 2"
            + "; addStep(1, 2, 1) = 3; joinStep(0, 0, 0) = 2");
        // The smallest path is not suitable, so the next one is the joining path.
        Edge.run(Edge.objects(0, 3) + "addStep(0, 1, 1) = 0; addStep(0, 2, 1) = 1; addStep(1, 2, 2) = 2"
            + "; addStep(1, 2, 1) = 3; joinStep(0, 0, 0) = 3");
    }

    private static void labellings() {
        String triangle = Edge.objects(0, 4) + "addStep(0, 1, 7) = 0; addStep(0, 2, 6) = 1; addStep(1, 3, 5) = 2"
            + "; addStep(3, 2, 4) = 3\n";
        Edge.of(0, "A labelling with k labels gives each step a label from 0 to k - 1");
        Edge.run("addObject() = 0; addStep(0, 0, 7) = 0; labellingCount(1) = 1; labellingCount(2) = 2"
            + "; labellingCount(3) = 3; addStep(0, 0, 7) = 1"
            + "; labellingCount(1) = 1; labellingCount(2) = 4; labellingCount(3) = 9");

        Edge.of(0, "It is decreasing if the system with these labels and with the natural order of numbers as label order "
            + "is locally decreasing");
        Edge.run(triangle + "labellingCount(2) = 6; findLabelling(2) = 1; firstFailure() = 0; applyLabelling() = 4"
            + "; firstFailure() = NONE");
        Edge.run(triangle + "addGreater(0, 1) = 1; addGreater(1, 2) = 1; labellingCount(2) = 6; labellingCount(1) = 0"
            + "; findLabelling(2) = 1; foundLabel(1) = 1");

        Edge.of(0, "Labellings are ordered lexicographically, with the label of step 0 first");
        Edge.run(triangle + "findLabelling(2) = 1; foundLabel(0) = 0; foundLabel(1) = 1; foundLabel(2) = 0"
            + "; foundLabel(3) = 0");

        Edge.of(0, "A system without steps has one labelling, the empty one",
            "A system without steps has one labelling, the empty one, which can be found and applied");
        Edge.run("labellingCount(1) = 1; labellingCount(3) = 1; addObject() = 0; labellingCount(2) = 1");
        Edge.change("LABELLING", "", "findLabelling(1) = 1; foundLabel(0) = NONE");
        Edge.change("LABELLING", "addObject() = 0", "findLabelling(3) = 1; foundLabel(0) = NONE");
        Edge.change("ORDER", "findLabelling(1) = 1", "applyLabelling() = 0");
        Edge.change("LABELLING", Edge.RICH + "clearSystem() = 5", "findLabelling(2) = 1; foundLabel(0) = NONE");
        Edge.change("ORDER", Edge.RICH + "clearSystem() = 5; findLabelling(2) = 1", "applyLabelling() = 0");

        Edge.of(0, "The class remembers the labelling that was found last");
        Edge.run(triangle + "findLabelling(2) = 1; foundLabel(1) = 1; removeStep(3) = 3; removeStep(0) = 2"
            + "; findLabelling(2) = 1; foundLabel(1) = 0; foundLabel(2) = NONE");
    }

    private static void stringRewriting() {
        Edge.of(0, "Words consist of the letters a, b and c and have at most 8 letters");
        Edge.run("type(abc) = 3; explore() = 1; letter(0, 0) = 97; letter(0, 1) = 98; letter(0, 2) = 99");
        Edge.run("feed(96) = 1; explore() = -100; feed(100) = 1; explore() = -100; feed(97) = 1; explore() = 1"
            + "; feed(99) = 1; explore() = 1");
        Edge.run("type(cccccccc) = 8; explore() = 1; wordLength(0) = 8; type(ccccccccc) = 9; explore() = -108");

        Edge.of(0, "A rule replaces its left side, a word of 1 to 4 letters, by its right side, a word of 0 to 4 letters");
        Edge.run("type(>a) = 2; addRule() = -100; type(a>) = 2; addRule() = 0; type(ba) = 2; explore() = 2"
            + "; wordLength(1) = 1; letter(1, 0) = 98");
        Edge.run("""
            type(abcab>) = 6; addRule() = -104; type(abca>ccba) = 9; addRule() = 0; type(babcab) = 6; explore() = 2
            wordLength(1) = 6; letter(1, 0) = 98; letter(1, 1) = 99; letter(1, 2) = 99; letter(1, 3) = 98
            letter(1, 4) = 97; letter(1, 5) = 98
            """);
        Edge.run("type(a>bcabc) = 7; addRule() = -106; type(a>bcab) = 6; addRule() = 0; type(cacc) = 4"
            + "; explore() = EXPLORATION_FAILED");

        Edge.of(0, "Rules are numbered from 0; there are at most 6");
        Edge.run("""
            type(a>) = 2; addRule() = 0; type(a>) = 2; addRule() = 1; type(a>) = 2; addRule() = 2; type(a>) = 2
            addRule() = 3; type(a>) = 2; addRule() = 4; type(b>) = 2; addRule() = 5; type(c>) = 2; addRule() = FULL
            explore() = -101; type(b) = 1; explore() = 2; stepCount() = 1; label(0) = 5; type(a) = 1; explore() = 2
            stepCount() = 5; label(4) = 4; clearRules() = 6
            """);

        Edge.of(0, "A rule can be applied to a word at every position at which its left side occurs");
        Edge.run("type(aa>b) = 4; addRule() = 0; type(aaa) = 3; explore() = 3; letter(1, 0) = 98; letter(1, 1) = 97"
            + "; letter(2, 0) = 97; letter(2, 1) = 98");
        Edge.run("type(abca>c) = 6; addRule() = 0; type(abca) = 4; explore() = 2; wordLength(1) = 1; type(abc) = 3"
            + "; explore() = 1; type(abcb) = 4; explore() = 1");
        Edge.run("type(ca>b) = 4; addRule() = 0; type(cacccccc) = 8; explore() = 2; letter(1, 0) = 98; type(ccccccca) = 8"
            + "; explore() = 2; letter(1, 6) = 98");
    }

    private static void exploration() {
        Edge.of(0, "The exploration of a start word replaces the system", "The start word becomes object 0");
        Edge.change("SYSTEM INPUT", Edge.RICH, "explore() = 4; letter(0, 0) = 97; letter(0, 1) = 98");
        Edge.run(Edge.objects(0, 16) + Edge.loops(0, 32) + "type(c) = 1; explore() = 1; objectCount() = 1; stepCount() = 0"
            + "; wordLength(0) = 1; letter(0, 0) = 99");

        Edge.of(0, "Then the objects are expanded in the order of their numbers: all rules by number, and for each rule "
            + "all positions from left to right...",
            "A result that is not yet the word of an object becomes the next object");
        Edge.run("""
            type(b>a) = 3; addRule() = 0; type(a>c) = 3; addRule() = 1; type(ab) = 2; explore() = 6; stepCount() = 7
            letter(1, 0) = 97; letter(1, 1) = 97; letter(2, 0) = 99; letter(2, 1) = 98; letter(3, 0) = 99
            letter(3, 1) = 97; letter(4, 0) = 97; letter(4, 1) = 99; letter(5, 0) = 99; letter(5, 1) = 99; source(0) = 0
            target(0) = 1; label(0) = 0; source(1) = 0; target(1) = 2; label(1) = 1; source(2) = 1; target(2) = 3
            label(2) = 1; source(3) = 1; target(3) = 4; label(3) = 1; source(4) = 2; target(4) = 3; label(4) = 0
            source(5) = 3; target(5) = 5; label(5) = 1; source(6) = 4; target(6) = 5; label(6) = 1
            """);

        Edge.of(0, "A step from the object to that of the result is added, with the number of the rule as its label, "
            + "unless there is already a step...");
        Edge.run("type(a>) = 2; addRule() = 0; type(aaaaaaaa) = 8; explore() = 9; stepCount() = 8");
        Edge.run("type(a>) = 2; addRule() = 0; type(a>) = 2; addRule() = 1; type(aa) = 2; explore() = 3; stepCount() = 4"
            + "; label(0) = 0; label(1) = 1");
        Edge.run("type(a>a) = 3; addRule() = 0; type(aaa) = 3; explore() = 1; stepCount() = 1; source(0) = 0"
            + "; target(0) = 0; label(0) = 0");
        Edge.run("type(a>b) = 3; addRule() = 0; type(b>a) = 3; addRule() = 1; type(a) = 1; explore() = 2; stepCount() = 2"
            + "; source(1) = 1; target(1) = 0; label(1) = 1");

        Edge.of(0, "The label order does not change");
        Edge.run("addGreater(0, 1) = 1; type(a>b) = 3; addRule() = 0; type(aa) = 2; explore() = 4; isGreater(0, 1) = 1"
            + "; isGreater(1, 0) = 0; useNaturalOrder() = 1");
    }

    private static void details() {
        Edge.of(0, "The labelling that was found last stays with everything but another search that finds one");
        String[] others = {
            "addObject() = 5", "addStep(0, 0, 0) = 7", "removeStep(0) = 6", "setLabel(6, 0) = 7", "clearSystem() = 5",
            "explore() = 4",
            "addRule() = -102", "feed(97) = 3", "clearRules() = 3", "useNaturalOrder() = 3", "addGreater(5, 4) = 1",
            "draw(1) = 10",
            "removeGreater(2, 1) = 1", "applyLabelling() = 5", "labellingCount(2) = 18",
            "labellingCount(4) = BAD_ARGUMENT", "findLabelling(1) = 0",
            "findLabelling(0) = BAD_ARGUMENT", "saveReachable(0) = 5", "newArray(0, 2) = 1", "saveSnapshot() = 5",
            "restoreSnapshot() = 5"
        };
        for (String other : others) {
            Edge.run(Edge.RICH + other + "\nfoundLabel(0) = 0; foundLabel(5) = 0; foundLabel(6) = 1; foundLabel(7) = NONE");
        }
        Edge.run(Edge.RICH + "findLabelling(1) = 0; foundLabel(6) = 1; findLabelling(3) = 1; foundLabel(6) = 1"
            + "; clearSystem() = 5; findLabelling(1) = 1; foundLabel(6) = NONE");

        Edge.of(0, "A step can belong to several parts of a suitable path, which is suitable if it can be divided in some "
            + "way");
        // Label 2 is other and below own at once: it may stand in each of the three parts.
        String ownAboveOther = Edge.objects(0, 6) + "addStep(0, 1, 1) = 0; addStep(0, 2, 2) = 1; addGreater(1, 2) = 1\n";
        Edge.run(ownAboveOther + path(2, 2, 2, 2) + "isDecreasing(0) = 1; joinLength(0, 0) = 4");
        // Label 4 is below own and below other: it may stand before and behind the step with the other label.
        String belowBoth = Edge.objects(0, 8) + "addStep(0, 1, 1) = 0; addStep(0, 2, 2) = 1; addGreater(1, 4) = 1"
            + "; addGreater(2, 4) = 1\n";
        Edge.run(belowBoth + path(4, 2, 4, 4) + "isDecreasing(0) = 1; joinLength(0, 0) = 4");
        Edge.run(belowBoth + path(4, 4, 2, 4) + "isDecreasing(0) = 1; joinLength(0, 0) = 4");
        Edge.run(belowBoth + path(4, 2, 4, 2) + "isDecreasing(0) = 0");

        // Object 3 is met with one step in the last part, and with two steps still in the first part; only these can go on.
        Edge.run(belowBoth + """
            addStep(1, 3, 2) = 2; addStep(1, 4, 4) = 3; addStep(4, 3, 4) = 4; addStep(3, 2, 2) = 5; isDecreasing(0) = 1
            joinLength(0, 0) = 3; joinStep(0, 0, 0) = 3; joinStep(0, 0, 1) = 4; joinStep(0, 0, 2) = 5
            """);

        Edge.of(0, "Rules can be equal, or have equal sides");
        Edge.run("type(ab>c) = 4; addRule() = 0; type(ab>c) = 4; addRule() = 1; type(ab) = 2; explore() = 2"
            + "; stepCount() = 2; label(1) = 1");
        Edge.run("type(ab>ab) = 5; addRule() = 0; type(ab) = 2; explore() = 1; stepCount() = 1; target(0) = 0"
            + "; isTerminating() = 0");

        Edge.of(0, "The output, the arrays and the input stay when the system is cleared or restored, and the failure "
            + "stays behind an exploration that succeeds");
        Edge.change("SYSTEM", Edge.RICH, "clearSystem() = 5");
        Edge.change("SYSTEM ORDER RULES", Edge.RICH, "restoreSnapshot() = 5");
        Edge.change("SYSTEM INPUT", Edge.RICH, "explore() = 4; failure(0) = 6; failure(1) = 0; failure(2) = 0");
    }

    private static void constants() {
        Edge.of(0, "Methods report errors by the constants of this class",
            "BAD_ARGUMENT = -1: An argument is out of range, or an object, step, peak, rule or array does not exist");
        Edge.run("isGreater(8, 0) = -1; feed(0) = -1; distance(0, 0) = -1; source(0) = -1; valley(0) = -1"
            + "; newArray(3, 0) = -1; newArray(0, 17) = -1; findLabelling(4) = -1");

        Edge.of(0, "NONE = -2: There is no such element or no result");
        Edge.run("foundLabel(0) = -2; output(0) = -2; failure(0) = -2; counterexample() = -2; firstFailure() = -2"
            + "; restoreSnapshot() = -2; applyLabelling() = -2");

        Edge.of(0, "FULL = -3: There is no room");
        Edge.run(Edge.objects(0, 16) + Edge.loops(0, 32) + "addObject() = -3; addStep(0, 0, 0) = -3");
        Edge.run("type(abcabcabcabcabcabcab) = 20; feed(97) = -3");
        StringBuilder rules = new StringBuilder();
        for (int rule = 0; rule < 6; rule++) {
            rules.append("type(a>) = 2; addRule() = ").append(rule).append('\n');
        }
        Edge.run(rules + "addRule() = -3");

        Edge.of(0, "CYCLE = -4: A label would become greater than itself");
        Edge.run("addGreater(1, 1) = -4; addGreater(1, 0) = 1; addGreater(0, 1) = -4");

        Edge.of(0, "TOO_LARGE = -5: The system has too many steps for a search of labellings");
        Edge.run("addObject() = 0\n" + Edge.loops(0, 9) + "findLabelling(1) = -5; labellingCount(1) = -5");

        Edge.of(0, "EXPLORATION_FAILED = -6: An exploration exceeds a limit");
        Edge.run("type(a>aa) = 4; addRule() = 0; type(a) = 1; explore() = -6");

        Edge.of(0, "AMBIGUOUS = -7: An object has several normal forms");
        Edge.run(Edge.objects(0, 3) + "addStep(0, 1, 0) = 0; addStep(0, 2, 0) = 1; normalForm(0) = -7");

        Edge.of(0, "NULL_ARRAY = -11: The array is missing");
        Edge.run("setElement(0, 0, 0) = -11; compareReachable(0) = -11");

        Edge.of(0, "INDEX_OUT_OF_RANGE = -13: An array index is out of range");
        Edge.run("newArray(0, 1) = 1; setElement(0, 1, 0) = -13; setElement(0, -1, 0) = -13");

        Edge.of(0, "NEGATIVE_SIZE = -14: An array size is negative");
        Edge.run("newArray(0, -1) = -14");

        Edge.of(0, "SYNTAX_ERROR = -100: A syntax error at position k is reported as SYNTAX_ERROR - k");
        Edge.run("explore() = -100; addRule() = -100; feed(97) = 1; addRule() = -101; type(abcabcab>) = 9; explore() = -108");
    }

    private static void errors() {
        Edge.of(0, "A call that reports an error leaves the state unchanged, unless its description says otherwise");
        Edge.leave(Edge.RICH, """
            addGreater(8, 0) = BAD_ARGUMENT; addGreater(1, 1) = CYCLE; removeGreater(-1, 0) = BAD_ARGUMENT
            isGreater(0, 8) = BAD_ARGUMENT; addStep(5, 0, 0) = BAD_ARGUMENT; removeStep(7) = BAD_ARGUMENT
            setLabel(0, 8) = BAD_ARGUMENT; source(7) = BAD_ARGUMENT; target(7) = BAD_ARGUMENT; label(7) = BAD_ARGUMENT
            distance(5, 0) = BAD_ARGUMENT; distance(3, 0) = NONE; reachable(5) = BAD_ARGUMENT
            normalForm(5) = BAD_ARGUMENT; component(5) = BAD_ARGUMENT; longestPath(5) = BAD_ARGUMENT
            longestPath(0) = NONE; counterexample() = NONE; peakStep(4, 0) = BAD_ARGUMENT; isDecreasing(4) = BAD_ARGUMENT
            valley(4) = BAD_ARGUMENT; valley(1) = NONE; joinLength(4, 0) = BAD_ARGUMENT; joinLength(1, 0) = NONE
            joinStep(4, 0, 0) = BAD_ARGUMENT; joinStep(0, 0, 1) = NONE; draw(4) = BAD_ARGUMENT; output(15) = NONE
            findLabelling(4) = BAD_ARGUMENT; labellingCount(0) = BAD_ARGUMENT; foundLabel(7) = NONE
            feed(128) = BAD_ARGUMENT; failure(3) = NONE; wordLength(5) = BAD_ARGUMENT; wordLength(4) = NONE
            letter(0, 2) = NONE; newArray(3, 0) = BAD_ARGUMENT; newArray(0, -1) = NEGATIVE_SIZE
            setElement(2, 0, 0) = NULL_ARRAY; element(2, 0) = MIN_LONG; setElement(1, 0, 0) = INDEX_OUT_OF_RANGE
            saveReachable(3) = BAD_ARGUMENT; compareReachable(2) = NULL_ARRAY
            """);
    }
}
