/** Promises 16 to 24: paths, normal forms, termination and confluence. */
public final class ReductionTest {
    private static final String LINE_OF_SIXTEEN = lineOfSixteen();

    public static void main(String[] args) {
        distance();
        reachable();
        normalForm();
        component();
        termination();
        confluence();
        localConfluence();
        Script.finish();
    }

    /** Objects 0 to 15 and steps 15 > 14 > ... > 0, so that the numbers of the objects fall along the path. */
    private static String lineOfSixteen() {
        StringBuilder script = new StringBuilder(objects(16));
        for (int step = 0; step < 15; step++) {
            script.append("addStep(").append(15 - step).append(", ").append(14 - step).append(", 0) = ").append(step)
                .append('\n');
        }
        return script.toString();
    }

    private static String objects(int count) {
        StringBuilder script = new StringBuilder();
        for (int object = 0; object < count; object++) {
            script.append("addObject() = ").append(object).append('\n');
        }
        return script.toString();
    }

    private static void distance() {
        Script.run("16, a long path", LINE_OF_SIXTEEN + """
            distance(15, 0) = 15; distance(0, 15) = NONE; distance(15, 15) = 0; distance(7, 3) = 4; distance(3, 7) = NONE
            addStep(14, 2, 1) = 15; distance(15, 0) = 4; distance(14, 3) = 11
            """);
        Script.run("16, the way round a cycle, and a loop", objects(3) + """
            addStep(0, 1, 0) = 0; addStep(1, 2, 1) = 1; addStep(2, 0, 2) = 2; distance(0, 0) = 0; distance(1, 0) = 2
            distance(2, 1) = 2; addStep(2, 2, 0) = 3; distance(2, 2) = 0
            """);
        Script.run("16, wrong objects", objects(2) + """
            distance(2, 0) = BAD_ARGUMENT; distance(0, 2) = BAD_ARGUMENT; distance(-1, 0) = BAD_ARGUMENT
            distance(0, -1) = BAD_ARGUMENT; distance(16, 16) = BAD_ARGUMENT; distance(0, 1) = NONE
            """);
    }

    private static void reachable() {
        Script.run("17, sets", LINE_OF_SIXTEEN + """
            reachable(15) = 65535; reachable(14) = 32767; reachable(0) = 1; reachable(3) = 15; addStep(0, 3, 7) = 15
            reachable(0) = 15; reachable(16) = BAD_ARGUMENT; reachable(-1) = BAD_ARGUMENT
            """);
        Script.run("17, an object alone", objects(3) + """
            reachable(1) = 2; addStep(1, 1, 0) = 0; reachable(1) = 2; addStep(1, 0, 0) = 1; reachable(1) = 3
            reachable(3) = BAD_ARGUMENT; reachable(MIN_INT) = BAD_ARGUMENT
            """);
    }

    private static void normalForm() {
        Script.run("18, one, none, several", objects(5) + """
            normalForm(0) = 0; addStep(0, 1, 0) = 0; normalForm(0) = 1; normalForm(1) = 1; addStep(1, 2, 0) = 1
            normalForm(0) = 2; addStep(1, 0, 0) = 2; normalForm(0) = 2; addStep(0, 3, 0) = 3; normalForm(0) = AMBIGUOUS
            normalForm(1) = AMBIGUOUS; normalForm(2) = 2; addStep(3, 3, 0) = 4; normalForm(3) = NONE; normalForm(0) = 2
            addStep(4, 3, 0) = 5; normalForm(4) = NONE; normalForm(5) = BAD_ARGUMENT; normalForm(-1) = BAD_ARGUMENT
            """);
        Script.run("18, the last of sixteen", LINE_OF_SIXTEEN + """
            normalForm(15) = 0; addStep(0, 15, 0) = 15; normalForm(7) = NONE; normalForm(15) = NONE
            normalForm(16) = BAD_ARGUMENT
            """);
    }

    private static void component() {
        Script.run("19, steps in any direction", objects(7) + """
            component(6) = 6; addStep(6, 5, 0) = 0; component(6) = 5; component(5) = 5; addStep(2, 5, 0) = 1; component(6) = 2
            addStep(1, 4, 0) = 2; component(4) = 1; component(6) = 2; addStep(4, 6, 0) = 3; component(6) = 1; component(2) = 1
            component(5) = 1; component(0) = 0; component(3) = 3; component(7) = BAD_ARGUMENT; component(-1) = BAD_ARGUMENT
            """);
        Script.run("19, a long way to the lowest", LINE_OF_SIXTEEN + """
            component(15) = 0; component(0) = 0; removeStep(14) = 14; component(15) = 1; component(0) = 0
            removeStep(7) = 13; component(15) = 8; component(7) = 1
            """);
    }

    private static void termination() {
        Script.run("20 and 21, a long path", LINE_OF_SIXTEEN + """
            isTerminating() = 1; longestPath(15) = 15; longestPath(0) = 0; longestPath(8) = 8; addStep(15, 0, 0) = 15
            longestPath(15) = 15; isTerminating() = 1; addStep(0, 15, 0) = 16; isTerminating() = 0; longestPath(15) = NONE
            longestPath(0) = NONE; longestPath(16) = BAD_ARGUMENT
            """);
        Script.run("20 and 21, a cycle that only some objects reach", objects(5) + """
            addStep(0, 1, 0) = 0; addStep(1, 2, 0) = 1; addStep(2, 1, 0) = 2; addStep(3, 4, 0) = 3; addStep(1, 4, 0) = 4
            isTerminating() = 0; longestPath(0) = NONE; longestPath(2) = NONE; longestPath(3) = 1; longestPath(4) = 0
            removeStep(2) = 4; isTerminating() = 1; longestPath(0) = 2; longestPath(-1) = BAD_ARGUMENT
            longestPath(5) = BAD_ARGUMENT
            """);
        Script.run("20 and 21, one object with and without a loop", """
            longestPath(0) = BAD_ARGUMENT; addObject() = 0; isTerminating() = 1; longestPath(0) = 0; addStep(0, 0, 0) = 0
            isTerminating() = 0; longestPath(0) = NONE
            """);
        Script.run("21, the longer of two ways", objects(4) + """
            addStep(0, 3, 0) = 0; longestPath(0) = 1; addStep(0, 1, 0) = 1; addStep(1, 2, 0) = 2; addStep(2, 3, 0) = 3
            longestPath(0) = 3; longestPath(1) = 2
            """);
    }

    private static void confluence() {
        Script.run("22 and 23, the first triple", objects(4) + """
            addStep(2, 1, 0) = 0; isConfluent() = 1; addStep(2, 3, 0) = 1; isConfluent() = 0
            counterexample() = 531; addStep(0, 2, 0) = 2; counterexample() = 19; isConfluent() = 0; addStep(3, 1, 0) = 3
            counterexample() = NONE; isConfluent() = 1
            """);
        Script.run("22 and 23, the lowest b before the lowest c", objects(6) + """
            addStep(0, 5, 0) = 0; addStep(0, 4, 0) = 1; addStep(0, 3, 0) = 2; addStep(4, 5, 0) = 3; counterexample() = 52
            addStep(3, 4, 0) = 4; counterexample() = NONE; addStep(3, 1, 0) = 5; counterexample() = 20
            """);
        Script.run("22 and 23, a reducible object of a triple", objects(5) + """
            addStep(0, 1, 0) = 0; addStep(1, 2, 0) = 1; addStep(0, 3, 0) = 2; addStep(3, 4, 0) = 3; counterexample() = 19
            addStep(2, 3, 0) = 4; counterexample() = NONE
            """);
        Script.run("22 and 23, locally confluent but not confluent", objects(4) + """
            addStep(0, 1, 0) = 0; addStep(1, 0, 0) = 1; addStep(0, 2, 0) = 2; addStep(1, 3, 0) = 3; isLocallyConfluent() = 1
            isConfluent() = 0; counterexample() = 35
            """);
        Script.run("22 and 23, the last objects", LINE_OF_SIXTEEN + """
            isConfluent() = 1; removeStep(0) = 14; removeStep(0) = 13; addStep(13, 15, 0) = 13; counterexample() = 3343
            """);
        Script.run("22, objects that are not connected", objects(2) + """
            isConfluent() = 1; counterexample() = NONE; isLocallyConfluent() = 1
            """);
    }

    private static void localConfluence() {
        Script.run("24, one peak of several", objects(4) + """
            addStep(0, 1, 0) = 0; addStep(0, 2, 0) = 1; isLocallyConfluent() = 0; addStep(2, 1, 0) = 2
            isLocallyConfluent() = 1; addStep(2, 3, 0) = 3; isLocallyConfluent() = 0; addStep(3, 1, 0) = 4
            isLocallyConfluent() = 1; isConfluent() = 1
            """);
        Script.run("24, joined over a long way, whatever the labels", objects(5) + """
            addStep(0, 1, 0) = 0; addStep(0, 2, 0) = 1; addStep(1, 3, 7) = 2; addStep(3, 4, 7) = 3; addStep(4, 2, 7) = 4
            isLocallyConfluent() = 1; isDecreasing(0) = 0; firstFailure() = 0
            """);
    }
}
