/** Promises 51 and 52: the snapshot. */
public final class SnapshotTest {
    private static final String EXPLORED = """
        type(a>b) = 3; addRule() = 0; type(b>c) = 3; addRule() = 1; addGreater(5, 2) = 1; addGreater(2, 6) = 1
        type(ab) = 2; explore() = 6; addObject() = 6; addStep(6, 0, 7) = 7
        """;

    public static void main(String[] args) {
        whatIsSaved();
        whatStays();
        laterSnapshots();
        Script.finish();
    }

    private static void whatIsSaved() {
        Script.run("51 and 52, objects, words, steps, label order and rules", EXPLORED + """
            saveSnapshot() = 7; clearSystem() = 7; clearRules() = 2; useNaturalOrder() = 2; type(c>) = 2; addRule() = 0
            type(ccc) = 3; explore() = 4; restoreSnapshot() = 7; objectCount() = 7; stepCount() = 8; wordLength(0) = 2
            letter(0, 0) = 97; letter(0, 1) = 98; wordLength(6) = NONE; source(7) = 6; target(7) = 0; label(7) = 7
            source(0) = 0; isGreater(5, 6) = 1; isGreater(5, 2) = 1; isGreater(6, 5) = 0; isGreater(7, 0) = 0
            useNaturalOrder() = 2; type(a) = 1; explore() = 3; clearRules() = 2
            """);
        Script.run("51 and 52, labels and pairs that change behind it", """
            addObject() = 0; addObject() = 1; addStep(0, 1, 3) = 0; addStep(1, 0, 4) = 1; addGreater(1, 0) = 1
            saveSnapshot() = 2; setLabel(0, 5) = 3; removeStep(1) = 1; removeGreater(1, 0) = 1; addObject() = 2
            restoreSnapshot() = 2; label(0) = 3; stepCount() = 2; source(1) = 1; target(1) = 0; label(1) = 4
            isGreater(1, 0) = 1; removeGreater(1, 0) = 1; objectCount() = 2
            """);
    }

    private static void whatStays() {
        Script.run("52, without a snapshot nothing changes", EXPLORED + """
            restoreSnapshot() = NONE; objectCount() = 7; stepCount() = 8; isGreater(5, 6) = 1; clearRules() = 2
            """);
        Script.run("52, input, output, arrays and the labelling are not restored", """
            addObject() = 0; addObject() = 1; addStep(0, 1, 0) = 0; addStep(0, 1, 0) = 1; type(ab) = 2; saveReachable(0) = 2
            saveSnapshot() = 2; feed(99) = 3; draw(0) = 11; newArray(0, 3) = 1; setElement(0, 2, 8) = 1; findLabelling(1) = 1
            restoreSnapshot() = 2; feed(97) = 4; text() = 1<0-0-1>1:,; element(0, 2) = 8; foundLabel(1) = 0
            applyLabelling() = 0; isGreater(1, 0) = 1; explore() = 1; wordLength(0) = 4
            """);
    }

    private static void laterSnapshots() {
        Script.run("52, a snapshot is kept and can be restored again", """
            addObject() = 0; saveSnapshot() = 1; addObject() = 1; restoreSnapshot() = 1; addObject() = 1; addStep(0, 1, 0) = 0
            restoreSnapshot() = 1; stepCount() = 0; addObject() = 1; saveSnapshot() = 2; clearSystem() = 2
            restoreSnapshot() = 2; objectCount() = 2; clearSystem() = 2; saveSnapshot() = 0; addObject() = 0
            restoreSnapshot() = 0; objectCount() = 0
            """);
    }
}
