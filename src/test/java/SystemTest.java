/** Promises 1 and 6 to 15: a new object, and the parts of a system. */
public final class SystemTest {
    public static void main(String[] args) {
        newObject();
        addObject();
        addStep();
        removeStep();
        setLabel();
        clearSystem();
        countsAndParts();
        Script.finish();
    }

    private static void newObject() {
        Script.run("1, a new object is empty", """
            objectCount() = 0; stepCount() = 0; peakCount() = 0; isGreater(7, 0) = 0; useNaturalOrder() = 0
            clearRules() = 0; clearSystem() = 0
            """);
        Script.run("1, nothing is found, saved, written or failed yet", """
            foundLabel(0) = NONE; applyLabelling() = NONE; restoreSnapshot() = NONE; output(0) = NONE; failure(0) = NONE
            failure(1) = NONE; failure(2) = NONE; element(0, 0) = MIN_LONG; setElement(2, 0, 1) = NULL_ARRAY; feed(97) = 1
            """);
        Script.run("1, an empty system is confluent, terminates and decreases", """
            isConfluent() = 1; counterexample() = NONE; isLocallyConfluent() = 1; isTerminating() = 1; decreasingCount() = 0
            firstFailure() = NONE
            """);
    }

    private static void addObject() {
        StringBuilder script = new StringBuilder();
        for (int object = 0; object < 16; object++) {
            script.append("addObject() = ").append(object).append('\n');
        }
        Script.run("6, sixteen objects", script + """
            addObject() = FULL; objectCount() = 16; addObject() = -3; objectCount() = 16; wordLength(15) = NONE
            letter(15, 0) = NONE; reachable(15) = 32768; component(15) = 15; clearSystem() = 16; addObject() = 0
            """);
    }

    private static void addStep() {
        Script.run("7, steps are numbered, and may be equal or loops", """
            addObject() = 0; addObject() = 1; addStep(0, 1, 7) = 0; addStep(0, 1, 7) = 1; addStep(1, 1, 0) = 2
            addStep(1, 0, 3) = 3; stepCount() = 4; source(3) = 1; target(3) = 0; label(3) = 3; peakCount() = 2
            """);
        Script.run("7, wrong arguments", """
            addStep(0, 0, 0) = BAD_ARGUMENT; addObject() = 0; addStep(0, 1, 0) = BAD_ARGUMENT; addStep(1, 0, 0) = BAD_ARGUMENT
            addStep(-1, 0, 0) = BAD_ARGUMENT; addStep(0, -1, 0) = BAD_ARGUMENT; addStep(0, 0, -1) = BAD_ARGUMENT
            addStep(0, 0, 8) = BAD_ARGUMENT; addStep(MAX_INT, 0, 0) = BAD_ARGUMENT; addStep(0, MIN_INT, 0) = BAD_ARGUMENT
            stepCount() = 0; addStep(0, 0, 7) = 0
            """);
        StringBuilder script = new StringBuilder("addObject() = 0\n");
        for (int step = 0; step < 32; step++) {
            script.append("addStep(0, 0, ").append(step % 8).append(") = ").append(step).append('\n');
        }
        Script.run("7, thirty-two steps", script + """
            addStep(0, 0, 0) = FULL; addStep(0, 0, 8) = BAD_ARGUMENT; addStep(1, 0, 0) = BAD_ARGUMENT; stepCount() = 32
            peakCount() = 496; peakStep(495, 0) = 30; peakStep(495, 1) = 31; peakStep(496, 0) = BAD_ARGUMENT
            decreasingCount() = 496; label(31) = 7; removeStep(0) = 31; label(30) = 7; label(31) = BAD_ARGUMENT
            addStep(0, 0, 2) = 31; label(31) = 2; findLabelling(1) = TOO_LARGE
            """);
    }

    private static void removeStep() {
        Script.run("8, later steps move down", """
            addObject() = 0; addObject() = 1; addObject() = 2; addStep(0, 1, 1) = 0; addStep(1, 2, 2) = 1; addStep(2, 0, 3) = 2
            addStep(2, 2, 4) = 3; removeStep(1) = 3; source(0) = 0; target(0) = 1; label(0) = 1; source(1) = 2; target(1) = 0
            label(1) = 3; source(2) = 2; target(2) = 2; label(2) = 4; source(3) = BAD_ARGUMENT; removeStep(2) = 2
            source(1) = 2; removeStep(0) = 1; label(0) = 3; removeStep(0) = 0; removeStep(0) = BAD_ARGUMENT; objectCount() = 3
            """);
        Script.run("8, wrong steps", """
            removeStep(0) = BAD_ARGUMENT; addObject() = 0; addStep(0, 0, 0) = 0; removeStep(1) = BAD_ARGUMENT
            removeStep(-1) = BAD_ARGUMENT; removeStep(MIN_INT) = BAD_ARGUMENT; removeStep(MAX_INT) = BAD_ARGUMENT; stepCount() = 1
            """);
    }

    private static void setLabel() {
        Script.run("9, the previous label", """
            addObject() = 0; addStep(0, 0, 5) = 0; addStep(0, 0, 6) = 1; setLabel(0, 7) = 5; setLabel(0, 0) = 7
            setLabel(0, 0) = 0; label(0) = 0; label(1) = 6
            """);
        Script.run("9, wrong arguments", """
            setLabel(0, 0) = BAD_ARGUMENT; addObject() = 0; addStep(0, 0, 5) = 0; setLabel(1, 0) = BAD_ARGUMENT
            setLabel(-1, 0) = BAD_ARGUMENT; setLabel(0, 8) = BAD_ARGUMENT; setLabel(0, -1) = BAD_ARGUMENT; label(0) = 5
            """);
    }

    private static void clearSystem() {
        Script.run("10, objects and steps go, label order, rules and the labelling stay", """
            addObject() = 0; addObject() = 1; addStep(0, 1, 0) = 0; addStep(0, 1, 1) = 1; addGreater(1, 0) = 1
            type(a>b) = 3; addRule() = 0; findLabelling(2) = 1; type(aa) = 2
            clearSystem() = 2; objectCount() = 0; stepCount() = 0; source(0) = BAD_ARGUMENT; reachable(0) = BAD_ARGUMENT
            peakCount() = 0; isGreater(1, 0) = 1; foundLabel(0) = 0; foundLabel(1) = 0; foundLabel(2) = NONE
            feed(97) = 3; explore() = 8; clearRules() = 1; clearSystem() = 8; clearSystem() = 0
            """);
        Script.run("10, the output and the arrays stay", """
            addObject() = 0; addStep(0, 0, 0) = 0; addStep(0, 0, 0) = 1; draw(0) = 11; saveReachable(1) = 1
            clearSystem() = 1; text() = 0<0-0-1>0:,; element(1, 0) = 1; compareReachable(1) = 0
            """);
        Script.run("10, an object that comes back has no word", """
            type(a>b) = 3; addRule() = 0; type(a) = 1; explore() = 2; wordLength(1) = 1; clearSystem() = 2; addObject() = 0
            addObject() = 1; wordLength(0) = NONE; wordLength(1) = NONE; stepCount() = 0
            """);
    }

    private static void countsAndParts() {
        Script.run("11 and 12, counts", """
            objectCount() = 0; addObject() = 0; objectCount() = 1; stepCount() = 0; addStep(0, 0, 0) = 0; stepCount() = 1
            objectCount() = 1; addStep(0, 1, 0) = BAD_ARGUMENT; stepCount() = 1
            """);
        Script.run("13 to 15, the parts of steps", """
            addObject() = 0; addObject() = 1; addObject() = 2; addStep(2, 1, 6) = 0; addStep(1, 0, 4) = 1
            source(0) = 2; target(0) = 1; label(0) = 6; source(1) = 1; target(1) = 0; label(1) = 4
            source(2) = BAD_ARGUMENT; target(2) = BAD_ARGUMENT; label(2) = BAD_ARGUMENT
            source(-1) = BAD_ARGUMENT; target(-1) = BAD_ARGUMENT; label(-1) = BAD_ARGUMENT
            source(MIN_INT) = BAD_ARGUMENT; target(MAX_INT) = BAD_ARGUMENT; label(32) = BAD_ARGUMENT
            """);
    }
}
