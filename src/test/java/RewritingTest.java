/** Promises 39 to 45: the input, rules, exploration and words. */
public final class RewritingTest {
    public static void main(String[] args) {
        feed();
        addRule();
        clearRules();
        explore();
        exploreFails();
        failure();
        words();
        Script.finish();
    }

    private static void feed() {
        Script.run("39, bytes from 1 to 127", """
            feed(1) = 1; feed(127) = 2; feed(0) = BAD_ARGUMENT; feed(128) = BAD_ARGUMENT; feed(-1) = BAD_ARGUMENT
            feed(MIN_INT) = BAD_ARGUMENT; feed(MAX_INT) = BAD_ARGUMENT; feed(353) = BAD_ARGUMENT; feed(64) = 3
            """);
        Script.run("39, twenty bytes", """
            type(aaaaaaaaaaaaaaaaaaa) = 19; feed(97) = 20; feed(97) = FULL; feed(0) = BAD_ARGUMENT; feed(128) = BAD_ARGUMENT
            feed(62) = FULL; addRule() = -104; feed(97) = 1
            """);
    }

    private static void addRule() {
        Script.run("40, sides from the shortest to the longest", """
            type(a>) = 2; addRule() = 0; type(abca>cccc) = 9; addRule() = 1; type(c>c) = 3; addRule() = 2; type(c>c) = 3
            addRule() = 3; type(bb>a) = 4; addRule() = 4; type(aaa>abc) = 7; addRule() = 5; clearRules() = 6
            """);
        Script.run("40, no room comes first and keeps the input", """
            type(a>) = 2; addRule() = 0; type(a>) = 2; addRule() = 1; type(a>) = 2; addRule() = 2; type(a>) = 2; addRule() = 3
            type(a>) = 2; addRule() = 4; type(a>) = 2; addRule() = 5; addRule() = FULL; type(ab) = 2; addRule() = FULL
            feed(99) = 3; clearRules() = 6; addRule() = -103; addRule() = -100; type(b>c) = 3; addRule() = 0
            """);
        Script.run("40, the position of the first byte that cannot continue", """
            addRule() = -100; type(>) = 1; addRule() = -100; type(d>a) = 3; addRule() = -100; type(A>a) = 3; addRule() = -100
            type(`>a) = 3; addRule() = -100; type(a) = 1; addRule() = -101; type(a?) = 2; addRule() = -101
            type(ab=c) = 4; addRule() = -102; type(abcd>a) = 6; addRule() = -103; type(abca) = 4; addRule() = -104
            type(abcab>) = 6; addRule() = -104; type(abcaa) = 5; addRule() = -104; type(a>>) = 3; addRule() = -102
            type(a>d) = 3; addRule() = -102; type(a>b>) = 4; addRule() = -103; type(a>bcab>) = 7; addRule() = -106
            type(a>bcabc) = 7; addRule() = -106; type(abca>bcab>) = 10; addRule() = -109; type(abca>bcabc) = 10
            addRule() = -109; type(a > b) = 5; addRule() = -101; type(a>b ) = 4; addRule() = -103; feed(1) = 1; addRule() = -100
            clearRules() = 0; type(a>b) = 3; addRule() = 0
            """);
    }

    private static void clearRules() {
        Script.run("41, no rule is left", """
            clearRules() = 0; type(a>b) = 3; addRule() = 0; type(b>c) = 3; addRule() = 1; type(a) = 1; explore() = 3
            clearRules() = 2; clearRules() = 0; objectCount() = 3; type(a) = 1; explore() = 1; type(c>a) = 3; addRule() = 0
            type(ac) = 2; explore() = 2; label(0) = 0
            """);
    }

    private static void explore() {
        Script.run("42, start words", """
            explore() = -100; type(a) = 1; explore() = 1; wordLength(0) = 1; stepCount() = 0; type(abcabcab) = 8; explore() = 1
            wordLength(0) = 8; letter(0, 7) = 98; type(abcabcabc) = 9; explore() = -108; feed(97) = 1; explore() = 1
            type(ad) = 2; explore() = -101; type(a>) = 2; explore() = -101; type(d) = 1; explore() = -100; type(>a) = 2
            explore() = -100; type(abcabcab>) = 9; explore() = -108; wordLength(0) = 1; objectCount() = 1; feed(97) = 1
            """);
        Script.run("42, objects and steps in the order of rules and positions", """
            type(b>c) = 3; addRule() = 0; type(a>b) = 3; addRule() = 1; type(ab) = 2; explore() = 6; stepCount() = 7
            letter(0, 0) = 97; letter(0, 1) = 98; letter(1, 0) = 97; letter(1, 1) = 99; letter(2, 0) = 98; letter(2, 1) = 98
            letter(3, 0) = 98; letter(3, 1) = 99; letter(4, 0) = 99; letter(4, 1) = 98; letter(5, 0) = 99; letter(5, 1) = 99
            source(0) = 0; target(0) = 1; label(0) = 0; source(1) = 0; target(1) = 2; label(1) = 1; source(2) = 1
            target(2) = 3; label(2) = 1; source(3) = 2; target(3) = 4; label(3) = 0; source(4) = 2; target(4) = 3
            label(4) = 0; source(5) = 3; target(5) = 5; label(5) = 0; source(6) = 4; target(6) = 5; label(6) = 0
            peakCount() = 2; isConfluent() = 1; normalForm(0) = 5
            """);
        Script.run("42, a step with the same source, target and label is added once", """
            type(aa>a) = 4; addRule() = 0; type(aaa) = 3; explore() = 3; stepCount() = 2; clearRules() = 1; type(a>) = 2
            addRule() = 0; type(a>) = 2; addRule() = 1; type(aa) = 2; explore() = 3; stepCount() = 4; label(0) = 0; label(1) = 1
            target(0) = 1; target(1) = 1; wordLength(2) = 0; letter(2, 0) = NONE
            """);
        Script.run("42, equal sides make loops, and a cycle ends", """
            type(a>a) = 3; addRule() = 0; type(ab>ba) = 5; addRule() = 1; type(ba>ab) = 5; addRule() = 2; type(ab) = 2
            explore() = 2; stepCount() = 4; source(0) = 0; target(0) = 0; target(1) = 1; label(1) = 1; source(2) = 1
            target(2) = 1; label(2) = 0; target(3) = 0; label(3) = 2; isTerminating() = 0
            """);
        Script.run("42, places that overlap, and a left side longer than the word", """
            type(aba>c) = 5; addRule() = 0; type(aaaa>b) = 6; addRule() = 1; type(ababa) = 5; explore() = 3
            wordLength(1) = 3; letter(1, 0) = 99; letter(1, 1) = 98; letter(1, 2) = 97; letter(2, 0) = 97; letter(2, 1) = 98
            letter(2, 2) = 99; stepCount() = 2; isConfluent() = 0; counterexample() = 18
            """);
        Script.run("42, the new system replaces the old one, and the label order stays", """
            addObject() = 0; addObject() = 1; addStep(0, 1, 5) = 0; addGreater(0, 1) = 1; findLabelling(1) = 1; type(c) = 1
            explore() = 1; objectCount() = 1; stepCount() = 0; isGreater(0, 1) = 1; foundLabel(0) = 0; wordLength(0) = 1
            addObject() = 1; wordLength(1) = NONE; type(bc) = 2; explore() = 1; wordLength(0) = 2; wordLength(1) = BAD_ARGUMENT
            """);
    }

    private static void exploreFails() {
        Script.run("42 and 43, a word of nine letters", """
            type(a>bbb) = 5; addRule() = 0; type(b>) = 2; addRule() = 1; type(c) = 1; explore() = 1; type(aaaacc) = 6
            explore() = EXPLORATION_FAILED; failure(0) = 1; failure(1) = 0; failure(2) = 0; objectCount() = 1
            stepCount() = 0; feed(97) = 1; explore() = 5; failure(0) = 1; failure(1) = 0; failure(2) = 0
            """);
        Script.run("42 and 43, eight letters are allowed", """
            type(a>bb) = 4; addRule() = 0; type(aaaa) = 4; explore() = 16; wordLength(15) = 8; stepCount() = 32
            failure(0) = NONE
            """);
        Script.run("42 and 43, seventeen objects", """
            type(a>b) = 3; addRule() = 0; type(aaaa) = 4; explore() = 16; stepCount() = 32; type(aaaaa) = 5
            explore() = EXPLORATION_FAILED; failure(0) = 6; failure(1) = 0; failure(2) = 1; objectCount() = 16; stepCount() = 32
            wordLength(0) = 4
            """);
        Script.run("42 and 43, thirty-three steps", """
            type(a>b) = 3; addRule() = 0; type(b>b) = 3; addRule() = 1; type(aaaa) = 4; explore() = EXPLORATION_FAILED
            failure(0) = 9; failure(1) = 0; failure(2) = 2; objectCount() = 0
            """);
    }

    private static void failure() {
        Script.run("43, the word comes before the objects, and the latest failure is told", """
            type(a>b) = 3; addRule() = 0; type(a>bbb) = 5; addRule() = 1; type(aaaaaaaa) = 8
            explore() = EXPLORATION_FAILED; failure(0) = 0; failure(1) = 1; failure(2) = 0; clearRules() = 2; type(a>b) = 3
            addRule() = 0; type(aaaaaaaa) = 8; explore() = EXPLORATION_FAILED; failure(0) = 2; failure(1) = 0; failure(2) = 1
            type(d) = 1; explore() = -100; failure(0) = 2; clearSystem() = 0; failure(2) = 1; failure(3) = NONE
            failure(-1) = NONE; failure(MIN_INT) = NONE; failure(MAX_INT) = NONE
            """);
        Script.run("43, an exploration that succeeds and a snapshot leave it", """
            saveSnapshot() = 0; type(a>aa) = 4; addRule() = 0; type(ba) = 2; explore() = EXPLORATION_FAILED; failure(0) = 6
            failure(1) = 0; failure(2) = 0; type(b) = 1; explore() = 1; failure(0) = 6; restoreSnapshot() = 0; failure(0) = 6
            clearRules() = 0; failure(1) = 0
            """);
    }

    private static void words() {
        Script.run("44 and 45, letters", """
            wordLength(0) = BAD_ARGUMENT; letter(0, 0) = BAD_ARGUMENT; type(cab) = 3; explore() = 1; wordLength(0) = 3
            letter(0, 0) = 99; letter(0, 1) = 97; letter(0, 2) = 98; letter(0, 3) = NONE; letter(0, -1) = NONE
            letter(0, MAX_INT) = NONE; letter(0, MIN_INT) = NONE; letter(1, 0) = BAD_ARGUMENT; letter(-1, 0) = BAD_ARGUMENT
            letter(1, -1) = BAD_ARGUMENT; wordLength(1) = BAD_ARGUMENT; wordLength(-1) = BAD_ARGUMENT; addObject() = 1
            wordLength(1) = NONE; letter(1, 0) = NONE; letter(1, -1) = NONE; letter(2, 0) = BAD_ARGUMENT
            """);
        Script.run("44 and 45, the empty word is a word", """
            type(abc>) = 4; addRule() = 0; type(abc) = 3; explore() = 2; wordLength(1) = 0; letter(1, 0) = NONE; normalForm(0) = 1
            """);
    }
}
