import java.util.function.Supplier;

/**
 * A part of the state, with a reading of it: all the answers that show this part. Some calls change what they show, so a
 * reading takes as many objects in the same state as it needs, and spoils them.
 */
enum Part {
    SYSTEM, ORDER, OUTPUT, LABELLING, FAILURE, ARRAYS, INPUT, RULES, SNAPSHOT;

    /** Words that tell rules with short sides from one another. */
    private static final String[] STARTS = {"a", "b", "c", "ab", "ba", "bb", "abc"};

    String read(Supplier<DecreasingDiagrams> fresh) {
        switch (this) {
            case SYSTEM:
                return system(fresh.get());
            case ORDER:
                return order(fresh.get());
            case OUTPUT:
                return output(fresh.get());
            case LABELLING:
                return labelling(fresh.get());
            case FAILURE:
                return failure(fresh.get());
            case ARRAYS:
                return arrays(fresh.get());
            case INPUT:
                return fresh.get().feed('z') + inputAsRule(fresh.get()) + inputAsStart(fresh.get());
            case RULES:
                return fresh.get().clearRules() + rules(fresh.get());
            default:
                return snapshot(fresh);
        }
    }

    private static String system(DecreasingDiagrams d) {
        StringBuilder text = new StringBuilder();
        text.append(d.objectCount()).append(" objects, ").append(d.stepCount()).append(" steps");
        for (int step = 0; step <= d.stepCount(); step++) {
            text.append(' ').append(d.source(step)).append('>').append(d.target(step)).append(':').append(d.label(step));
        }
        for (int object = 0; object <= d.objectCount(); object++) {
            text.append(' ').append(d.wordLength(object)).append('=');
            for (int i = 0; i < d.wordLength(object); i++) {
                text.append((char) d.letter(object, i));
            }
        }
        return text.toString();
    }

    private static String order(DecreasingDiagrams d) {
        StringBuilder text = new StringBuilder();
        for (int label = 0; label < 64; label++) {
            text.append(d.isGreater(label / 8, label % 8));
        }
        text.append(' ');
        for (int label = 0; label < 64; label++) {
            text.append(d.removeGreater(label / 8, label % 8));
        }
        return text.toString();
    }

    private static String output(DecreasingDiagrams d) {
        StringBuilder text = new StringBuilder();
        for (int i = 0; d.output(i) != DecreasingDiagrams.NONE; i++) {
            text.append((char) d.output(i));
        }
        return text.toString();
    }

    private static String labelling(DecreasingDiagrams d) {
        StringBuilder text = new StringBuilder();
        for (int step = 0; step <= 8; step++) {
            text.append(' ').append(d.foundLabel(step));
        }
        // Only a system without steps tells the empty labelling from none.
        d.clearSystem();
        return text.append(' ').append(d.applyLabelling()).toString();
    }

    private static String failure(DecreasingDiagrams d) {
        return d.failure(0) + " " + d.failure(1) + " " + d.failure(2);
    }

    private static String arrays(DecreasingDiagrams d) {
        StringBuilder text = new StringBuilder();
        for (int array = 0; array < 3; array++) {
            for (int i = 0; i < 16; i++) {
                text.append(' ').append(d.element(array, i));
            }
            // Tells a missing array from one without elements.
            text.append(' ').append(d.setElement(array, 16, 0));
        }
        return text.toString();
    }

    private static String inputAsRule(DecreasingDiagrams d) {
        d.clearRules();
        return " " + d.addRule() + " " + rules(d);
    }

    private static String inputAsStart(DecreasingDiagrams d) {
        d.clearRules();
        return " " + d.explore() + " " + system(d);
    }

    private static String rules(DecreasingDiagrams d) {
        StringBuilder text = new StringBuilder();
        d.explore();
        for (String start : STARTS) {
            for (int i = 0; i < start.length(); i++) {
                d.feed(start.charAt(i));
            }
            text.append(' ').append(start).append(' ').append(d.explore()).append(' ').append(system(d));
        }
        return text.toString();
    }

    private static String snapshot(Supplier<DecreasingDiagrams> fresh) {
        if (fresh.get().restoreSnapshot() == DecreasingDiagrams.NONE) {
            return "none";
        }
        Supplier<DecreasingDiagrams> restored = () -> {
            DecreasingDiagrams d = fresh.get();
            d.restoreSnapshot();
            return d;
        };
        return SYSTEM.read(restored) + " " + ORDER.read(restored) + " " + RULES.read(restored);
    }
}
