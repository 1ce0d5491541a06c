/** Promises 39 to 45, sentence by sentence: the input, rules, exploration and words. */
final class RewritingEdges {
    /** As RICH, with six rules. */
    private static final String SIX_RULES = Edge.RICH + """
        addRule() = -102; type(c>b) = 3; addRule() = 3; type(ca>) = 3; addRule() = 4; type(cc>c) = 4; addRule() = 5
        type(ab) = 2
        """;

    /** As RICH, but without rules and without input. */
    private static final String NO_RULES = Edge.RICH + "clearRules() = 3; addRule() = -102\n";

    private static final String TWENTY = "aaaaaaaaaaaaaaaaaaaa";

    private RewritingEdges() {
    }

    static void run() {
        feed();
        addRule();
        errorPositions();
        clearRules();
        explore();
        explorationFails();
        failure();
        wordLength();
        letter();
    }

    private static void feed() {
        Edge.of(39, "Appends a byte to the input");
        Edge.change("INPUT", Edge.RICH, "feed(97) = 3");
        Edge.change("INPUT", Edge.RICH, "feed(1) = 3");
        Edge.run("feed(99) = 1; feed(97) = 2; feed(98) = 3; explore() = 1; letter(0, 0) = 99; letter(0, 1) = 97"
            + "; letter(0, 2) = 98");

        Edge.of(39, "The input is empty at first");
        Edge.run("feed(97) = 1");
        Edge.run("explore() = -100");
        Edge.run("addRule() = -100");

        Edge.of(39, "b: the byte, 1 to 127", "BAD_ARGUMENT");
        Edge.run("feed(1) = 1; feed(127) = 2; feed(2) = 3; feed(126) = 4");
        Edge.range(Edge.RICH, "feed(#) = BAD_ARGUMENT", 1, 127);
        Edge.range("", "feed(#) = BAD_ARGUMENT", 1, 127);
        Edge.leave("", "feed(0) = BAD_ARGUMENT; feed(128) = BAD_ARGUMENT; feed(353) = BAD_ARGUMENT"
            + "; feed(-159) = BAD_ARGUMENT");

        Edge.of(39, "Returns the length of the input");
        StringBuilder script = new StringBuilder();
        for (int length = 1; length <= 20; length++) {
            script.append("feed(").append(96 + length).append(") = ").append(length).append('\n');
        }
        Edge.run(script + "feed(97) = FULL");

        Edge.of(39, "FULL if the input has 20 bytes");
        Edge.run("type(" + TWENTY.substring(1) + ") = 19; feed(97) = 20; feed(97) = FULL; feed(97) = FULL"
            + "; explore() = -108; feed(97) = 1");
        Edge.leave(Edge.RICH + "type(" + TWENTY.substring(2) + ") = 20", "feed(98) = FULL; feed(62) = FULL; feed(1) = FULL"
            + "; feed(127) = FULL");
        Edge.run("type(" + TWENTY + ") = 20; feed(97) = FULL; addRule() = -104; feed(97) = 1");

        Edge.of(0, "When several errors apply, the one that is listed first is reported");
        Edge.leave(Edge.RICH + "type(" + TWENTY.substring(2) + ") = 20", "feed(0) = BAD_ARGUMENT; feed(128) = BAD_ARGUMENT"
            + "; feed(-1) = BAD_ARGUMENT");
    }

    private static void addRule() {
        Edge.of(40, "Parses the input as a rule and adds it", "Returns the number of the rule");
        Edge.change("INPUT RULES", Edge.RICH + "type(>c) = 4", "addRule() = 3");
        Edge.run("""
            type(a>b) = 3; addRule() = 0; type(a>b) = 3; addRule() = 1; type(a>b) = 3; addRule() = 2; type(a>b) = 3
            addRule() = 3; type(a>b) = 3; addRule() = 4; type(a>b) = 3; addRule() = 5; clearRules() = 6; type(a>b) = 3
            addRule() = 0
            """);

        Edge.of(40, "A rule is written as its left side, the character >, and its right side");
        Edge.run("""
            type(abca>cbac) = 9; addRule() = 0; type(abca) = 4; explore() = 2; letter(1, 0) = 99; letter(1, 1) = 98
            letter(1, 2) = 97; letter(1, 3) = 99; wordLength(1) = 4; stepCount() = 1; type(cbac) = 4; explore() = 1
            """);

        Edge.of(40, "The input is empty afterwards, even after a syntax error, but not after FULL");
        Edge.run("type(a>b) = 3; addRule() = 0; feed(97) = 1");
        Edge.run("type(a>b>) = 4; addRule() = -103; feed(97) = 1; feed(62) = 2; addRule() = 0");
        Edge.run("addRule() = -100; feed(97) = 1");
        Edge.run(SIX_RULES + "addRule() = FULL; feed(62) = 3; feed(99) = 4; addRule() = FULL; clearRules() = 6"
            + "; addRule() = 0; feed(97) = 1");

        Edge.of(40, "FULL if there are 6 rules");
        Edge.run("type(a>) = 2; addRule() = 0\n" + fiveRulesMore() + "type(a>) = 2; addRule() = FULL; clearRules() = 6"
            + "; addRule() = 0");
        Edge.leave(SIX_RULES + "type(>c) = 4", "addRule() = FULL; addRule() = FULL");

        Edge.of(40, "SYNTAX_ERROR - k for a syntax error at position k");
        Edge.change("INPUT", Edge.RICH, "addRule() = -102");
        Edge.change("INPUT", Edge.RICH + "type(>abcab) = 8", "addRule() = -107");
        Edge.leave(NO_RULES, "addRule() = -100; addRule() = -100");

        Edge.of(0, "When several errors apply, the one that is listed first is reported");
        Edge.leave(SIX_RULES, "addRule() = FULL");
        Edge.leave(SIX_RULES + "type(>>) = 4", "addRule() = FULL");
    }

    private static String fiveRulesMore() {
        StringBuilder script = new StringBuilder();
        for (int rule = 1; rule < 6; rule++) {
            script.append("type(a>) = 2; addRule() = ").append(rule).append('\n');
        }
        return script.toString();
    }

    private static void errorPositions() {
        Edge.of(40, "The error position is the offset of the first byte that cannot continue a rule, or the length of the "
            + "input if it ends too early");
        String letters = "abcab";
        for (int left = 0; left <= 5; left++) {
            // A left side that ends the input ends it too early, or is too long.
            String alone = letters.substring(0, left);
            syntaxError(alone, Math.min(left, 4));
            for (char wrong : new char[] {'d', '`', 'A', 'C', ' ', '=', '?', 1, 127}) {
                syntaxError(alone + wrong + ">a", Math.min(left, 4));
            }
            for (int right = 0; right <= 5; right++) {
                String rule = alone + ">" + letters.substring(0, right);
                if (left == 0 || left == 5) {
                    syntaxError(rule, left == 0 ? 0 : 4);
                } else if (right == 5) {
                    syntaxError(rule, left + 5);
                } else {
                    Edge.run("type(" + rule + ") = " + rule.length() + "; addRule() = 0; clearRules() = 1");
                    for (char wrong : new char[] {'d', '`', '>', ' ', 1, 127}) {
                        syntaxError(rule + wrong, rule.length());
                        syntaxError(rule + wrong + "a", rule.length());
                    }
                }
            }
        }
        syntaxError("abcabcabcabcabcabcab", 4);
        syntaxError("a>bbbbbbbbbbbbbbbbbb", 6);
    }

    private static void syntaxError(String input, int position) {
        StringBuilder script = new StringBuilder();
        for (int i = 0; i < input.length(); i++) {
            script.append("feed(").append((int) input.charAt(i)).append(") = ").append(i + 1).append('\n');
        }
        Edge.run(script + "addRule() = " + (-100 - position) + "; clearRules() = 0; feed(97) = 1");
    }

    private static void clearRules() {
        Edge.of(41, "Removes all rules");
        Edge.change("RULES", Edge.RICH, "clearRules() = 3");
        Edge.run("type(a>b) = 3; addRule() = 0; clearRules() = 1; type(a) = 1; explore() = 1; stepCount() = 0");

        Edge.of(41, "Returns the number of rules that were removed");
        Edge.run("clearRules() = 0; type(a>b) = 3; addRule() = 0; clearRules() = 1; clearRules() = 0");
        Edge.run(SIX_RULES + "addRule() = FULL; clearRules() = 6; clearRules() = 0");
        Edge.leave(NO_RULES, "clearRules() = 0");
    }

    private static void explore() {
        Edge.of(42, "Parses the input as a start word of 1 to 8 letters and explores it", "Returns the number of objects");
        Edge.change("SYSTEM INPUT", Edge.RICH, "explore() = 4");
        Edge.run("type(a) = 1; explore() = 1; wordLength(0) = 1; letter(0, 0) = 97; objectCount() = 1; stepCount() = 0");
        Edge.run("type(abcabcab) = 8; explore() = 1; wordLength(0) = 8; letter(0, 0) = 97; letter(0, 7) = 98");
        Edge.run("type(a>b) = 3; addRule() = 0; type(aaaa) = 4; explore() = 16; objectCount() = 16");
        Edge.run("explore() = -100; objectCount() = 0");
        Edge.run("type(abcabcabc) = 9; explore() = -108; objectCount() = 0");

        Edge.of(42, "The input is empty afterwards in every case");
        Edge.run("type(ab) = 2; explore() = 1; feed(97) = 1; explore() = 1; wordLength(0) = 1");
        Edge.run("type(ab>) = 3; explore() = -102; feed(97) = 1; explore() = 1; wordLength(0) = 1");
        Edge.run("type(a>aa) = 4; addRule() = 0; type(a) = 1; explore() = EXPLORATION_FAILED; feed(98) = 1; explore() = 1"
            + "; letter(0, 0) = 98");
        Edge.run("type(" + TWENTY + ") = 20; explore() = -108; feed(97) = 1");

        Edge.of(42, "SYNTAX_ERROR - k for a syntax error at position k, with positions as for addRule");
        Edge.leave(NO_RULES, "explore() = -100");
        Edge.change("INPUT", Edge.RICH + "feed(62) = 3", "explore() = -102");
        Edge.change("INPUT", Edge.RICH + "type(cccccca) = 9", "explore() = -108");
        for (int length = 0; length <= 8; length++) {
            String word = "abcabcab".substring(0, length);
            for (String wrong : new String[] {"d", "`", ">", "A", " ", "da", ">b", "d>"}) {
                String input = word + wrong;
                Edge.run("type(" + input + ") = " + input.length() + "; explore() = " + (-100 - length)
                    + "; feed(97) = 1; objectCount() = 0");
            }
        }
    }

    private static void explorationFails() {
        Edge.of(42, "The exploration fails if it would need a word of more than 8 letters, more than 16 objects or more "
            + "than 32 steps; the system is not changed then",
            "EXPLORATION_FAILED if the exploration fails");
        // A word of 8 letters is still taken, one of 9 is not.
        Edge.run("type(a>bb) = 4; addRule() = 0; type(accccca) = 7; explore() = EXPLORATION_FAILED; failure(0) = 1"
            + "; failure(2) = 0");
        Edge.run("type(a>bb) = 4; addRule() = 0; type(accccc) = 6; explore() = 2; wordLength(1) = 7; type(acccccc) = 7"
            + "; explore() = 2; wordLength(1) = 8");
        Edge.run("type(a>bb) = 4; addRule() = 0; type(accccccc) = 8; explore() = EXPLORATION_FAILED; failure(0) = 0"
            + "; failure(1) = 0; failure(2) = 0");
        Edge.run("type(a>bbbb) = 6; addRule() = 0; type(ccccccca) = 8; explore() = EXPLORATION_FAILED; failure(2) = 0");
        Edge.run("type(a>bbbb) = 6; addRule() = 0; type(cccca) = 5; explore() = 2; wordLength(1) = 8; letter(1, 3) = 99"
            + "; letter(1, 4) = 98; letter(1, 7) = 98");
        // 16 objects are still taken, here with 18 steps; 17 objects, with no more than 20 steps, are not.
        Edge.run("type(aca>caa) = 7; addRule() = 0; type(b>ca) = 4; addRule() = 1; type(acabca) = 6; explore() = 16"
            + "; stepCount() = 18; failure(0) = NONE");
        Edge.run("type(ac>ab) = 5; addRule() = 0; type(cc>ac) = 5; addRule() = 1; type(cccca) = 5"
            + "; explore() = EXPLORATION_FAILED"
            + "; failure(0) = 12; failure(1) = 0; failure(2) = 1; objectCount() = 0; stepCount() = 0");
        // 32 steps are still taken, here of 8 objects; 33 are not.
        String loops = "type(a>b) = 3; addRule() = 0; type(b>a) = 3; addRule() = 1; type(c>c) = 3; addRule() = 2\n";
        Edge.run(loops + "type(aaac) = 4; explore() = 8; stepCount() = 32; failure(0) = NONE");
        Edge.run(loops + "type(bbb>bbb) = 7; addRule() = 3; type(aaac) = 4; explore() = EXPLORATION_FAILED; failure(0) = 7"
            + "; failure(1) = 3; failure(2) = 2; objectCount() = 0; stepCount() = 0");
        // Both at once.
        Edge.run("type(a>b) = 3; addRule() = 0; type(aaaa) = 4; explore() = 16; stepCount() = 32; failure(0) = NONE");
        // A result that is there already, with its step, exceeds nothing: c>c is applied twice to each object.
        Edge.run(loops + "type(aaacc) = 5; explore() = 8; stepCount() = 32; failure(0) = NONE");
        // The rest of the state: only the input and the failure change.
        Edge.change("INPUT FAILURE", NO_RULES + "type(a>bb) = 4; addRule() = 0"
            + "; type(accccccc) = 8", "explore() = EXPLORATION_FAILED");
        Edge.change("INPUT FAILURE", NO_RULES + "type(a>b) = 3; addRule() = 0"
            + "; type(aaaaa) = 5", "explore() = EXPLORATION_FAILED");
        Edge.change("INPUT FAILURE", NO_RULES + "type(a>b) = 3; addRule() = 0; type(b>b) = 3; addRule() = 1; type(aaaa) = 4",
            "explore() = EXPLORATION_FAILED");
    }

    private static void failure() {
        String failed = "type(a>aa) = 4; addRule() = 0; type(ba) = 2; explore() = EXPLORATION_FAILED\n";
        Edge.of(43, "Returns why the latest call of explore that returned EXPLORATION_FAILED failed", "Returns the number");
        Edge.leave(Edge.RICH, "failure(0) = 6; failure(1) = 0; failure(2) = 0");
        Edge.run(failed + """
            failure(0) = 6; failure(1) = 0; failure(2) = 0; clearRules() = 1; type(c>c) = 3; addRule() = 0; type(a>b) = 3
            addRule() = 1; type(aaaaa) = 5; explore() = EXPLORATION_FAILED; failure(0) = 6; failure(1) = 1; failure(2) = 1
            """);
        Edge.run(failed + "type(d) = 1; explore() = -100; failure(0) = 6; type(b) = 1; explore() = 1; failure(0) = 6"
            + "; failure(2) = 0");

        Edge.of(43, "depth: 0 for the object that was being expanded, 1 for the rule that was being applied, 2 for the "
            + "limit...",
            "NONE if depth is not 0 to 2 or no call has failed so far");
        Edge.range(Edge.RICH, "failure(#) = NONE", 0, 2);
        Edge.leave("", "failure(0) = NONE; failure(1) = NONE; failure(2) = NONE; failure(-1) = NONE; failure(3) = NONE");
        Edge.run("type(a) = 1; explore() = 1; failure(0) = NONE; type(d) = 1; explore() = -100; failure(0) = NONE"
            + "; failure(1) = NONE; failure(2) = NONE");

        Edge.of(43, "If a result exceeds several limits, it is the first of these");
        // Objects and steps: the seventeenth object would have the thirty-third step.
        Edge.run("type(a>b) = 3; addRule() = 0; type(bbbb>c) = 6; addRule() = 1; type(aaaa) = 4"
            + "; explore() = EXPLORATION_FAILED; failure(0) = 15; failure(1) = 1; failure(2) = 1");
        // A word and objects: when bbbacccc is expanded, there are 16 objects.
        Edge.run("type(a>b) = 3; addRule() = 0; type(bbb>aaaa) = 8; addRule() = 1; type(aaaacccc) = 8"
            + "; explore() = EXPLORATION_FAILED; failure(0) = 11; failure(1) = 1; failure(2) = 0");
        // A word and steps: 8 objects with 24 steps of a>b and b>a and 8 of c>c, then bbbccccc grows.
        Edge.run("type(a>b) = 3; addRule() = 0; type(b>a) = 3; addRule() = 1; type(c>c) = 3; addRule() = 2"
            + "; type(aaaccccc) = 8; explore() = 8"
            + "; stepCount() = 32; type(bbb>bbbb) = 8; addRule() = 3; type(aaaccccc) = 8; explore() = EXPLORATION_FAILED"
            + "; failure(0) = 7; failure(1) = 3; failure(2) = 0");
    }

    private static void refusedObjects(String call) {
        Edge.range(Edge.RICH, call + " = BAD_ARGUMENT", 0, 4);
        Edge.range(Edge.RICH + Edge.objects(5, 16), call + " = BAD_ARGUMENT", 0, 15);
        Edge.run(call.replace('#', '0') + " = BAD_ARGUMENT");
        Edge.run("type(a) = 1; explore() = 1; clearSystem() = 1; " + call.replace('#', '0') + " = BAD_ARGUMENT");
    }

    private static void wordLength() {
        Edge.of(44, "Returns the length of the word of an object", "Returns the number of letters");
        Edge.leave(Edge.RICH, "wordLength(0) = 2; wordLength(1) = 2; wordLength(2) = 1; wordLength(3) = 1");
        Edge.run("type(abcabcab) = 8; explore() = 1; wordLength(0) = 8");
        Edge.run("type(a>) = 2; addRule() = 0; type(a) = 1; explore() = 2; wordLength(0) = 1; wordLength(1) = 0");

        Edge.of(44, "object: the object", "BAD_ARGUMENT");
        refusedObjects("wordLength(#)");
        Edge.run("type(a>b) = 3; addRule() = 0; type(aaaa) = 4; explore() = 16; wordLength(15) = 4"
            + "; wordLength(16) = BAD_ARGUMENT");

        Edge.of(44, "NONE if the object has no word because it was added by addObject");
        Edge.leave(Edge.RICH, "wordLength(4) = NONE");
        Edge.run(Edge.objects(0, 16) + "wordLength(0) = NONE; wordLength(15) = NONE");
    }

    private static void letter() {
        Edge.of(45, "Returns a letter of the word of an object", "Returns the character code");
        Edge.leave(Edge.RICH, "letter(0, 0) = 97; letter(0, 1) = 98; letter(1, 0) = 97; letter(1, 1) = 99"
            + "; letter(2, 0) = 98; letter(3, 0) = 99");

        Edge.of(45, "object: the object", "BAD_ARGUMENT if there is no such object");
        refusedObjects("letter(#, 0)");

        Edge.of(45, "i: the position, from 0", "NONE if it has no word or the word has no such position");
        Edge.run("""
            type(abcabcab) = 8; explore() = 1; letter(0, 0) = 97; letter(0, 1) = 98; letter(0, 2) = 99; letter(0, 3) = 97
            letter(0, 4) = 98; letter(0, 5) = 99; letter(0, 6) = 97; letter(0, 7) = 98; letter(0, 8) = NONE
            letter(0, -1) = NONE
            """);
        Edge.range(Edge.RICH, "letter(0, #) = NONE", 0, 1);
        Edge.range(Edge.RICH, "letter(3, #) = NONE", 0, 0);
        Edge.range("type(abcabcab) = 8; explore() = 1", "letter(0, #) = NONE", 0, 7);
        Edge.run("type(a>) = 2; addRule() = 0; type(a) = 1; explore() = 2; letter(1, 0) = NONE; letter(1, -1) = NONE");
        Edge.leave(Edge.RICH, "letter(4, 0) = NONE; letter(4, -1) = NONE; letter(4, 1) = NONE");

        Edge.of(0, "When several errors apply, the one that is listed first is reported");
        Edge.leave(Edge.RICH, "letter(5, 2) = BAD_ARGUMENT; letter(5, -1) = BAD_ARGUMENT; letter(-1, -1) = BAD_ARGUMENT");
    }
}
