import java.lang.reflect.InvocationTargetException;
import java.lang.reflect.Method;
import java.util.ArrayList;
import java.util.Arrays;
import java.util.HashMap;
import java.util.List;
import java.util.Map;
import java.util.Random;
import java.util.TreeMap;

/** Long runs of calls, chosen at random from fixed seeds, each answered by the class and by the Oracle. */
public final class RandomRunsTest {
    private static final int RUNS = 1200;
    private static final int CALLS = 512;

    /** For each method how often it is called, and of which kinds its arguments are. */
    private static final String[] METHODS = {
        "8 addGreater label label", "2 removeGreater label label", "4 isGreater label label", "1 useNaturalOrder",
        "12 addObject", "24 addStep object object label", "6 removeStep step", "8 setLabel step label", "1 clearSystem",
        "1 objectCount", "1 stepCount", "2 source step", "2 target step", "2 label step", "4 distance object object",
        "4 reachable object", "4 normalForm object", "4 component object", "3 isTerminating", "4 longestPath object",
        "3 isConfluent", "4 counterexample", "3 isLocallyConfluent", "2 peakCount", "4 peakStep peak side",
        "6 isDecreasing peak", "6 valley peak", "6 joinLength peak side", "10 joinStep peak side position",
        "2 decreasingCount", "2 firstFailure", "8 draw peak", "12 output outputPosition", "1 findLabelling k",
        "1 labellingCount k", "4 foundLabel step", "2 applyLabelling", "4 feed byte", "2 addRule", "1 clearRules",
        "2 explore", "3 failure depth", "3 wordLength object", "6 letter object position", "3 newArray array size",
        "6 setElement array index value", "8 element array index", "3 saveReachable array", "4 compareReachable array",
        "2 saveSnapshot", "2 restoreSnapshot"
    };

    private static final Map<String, Method> OF_CLASS = methods(DecreasingDiagrams.class);
    private static final Map<String, Method> OF_ORACLE = methods(Oracle.class);
    private static final Map<String, Integer> ANSWERS = new TreeMap<>();

    private final Random random;
    private final int objects;
    private final int labels;
    private final DecreasingDiagrams tested = new DecreasingDiagrams();
    private final Oracle oracle = new Oracle();
    private final List<String> told = new ArrayList<>();
    private boolean right = true;

    private RandomRunsTest(long seed) {
        // Seeds that lie side by side would begin alike.
        random = new Random(seed * 0x9E3779B97F4A7C15L);
        objects = 1 + random.nextInt(16);
        labels = 1 + random.nextInt(8);
    }

    public static void main(String[] args) {
        int wrong = 0;
        for (int seed = 0; seed < RUNS; seed++) {
            RandomRunsTest run = new RandomRunsTest(seed);
            run.go(seed % 3);
            if (!run.right) {
                wrong++;
                System.out.println("seed " + seed + ": " + String.join("; ", run.told));
            }
        }
        System.out.println(RUNS + " runs, " + wrong + " wrong");
        if (wrong != 0 || !sawEveryKindOfAnswer()) {
            System.exit(1);
        }
    }

    /** A run that never meets an answer tests nothing of it. */
    private static boolean sawEveryKindOfAnswer() {
        boolean all = true;
        String[] due = {
            "addGreater -4", "addGreater 0", "addStep -3", "addObject -3", "counterexample -2", "normalForm -7", "normalForm -2",
            "longestPath -2", "valley -2", "joinStep -2", "findLabelling 0", "findLabelling 1", "findLabelling -5",
            "applyLabelling -2", "feed -3", "addRule -3", "addRule 5", "explore -6", "explore 16", "failure 0", "failure 2",
            "compareReachable -2", "compareReachable -11", "setElement -13", "restoreSnapshot -2", "letter 99", "joinLength 6"
        };
        for (String answer : due) {
            if (!ANSWERS.containsKey(answer)) {
                all = false;
                System.out.println("no run met: " + answer);
            }
        }
        return all;
    }

    private static Map<String, Method> methods(Class<?> type) {
        Map<String, Method> methods = new HashMap<>();
        for (Method method : type.getMethods()) {
            methods.put(method.getName(), method);
        }
        return methods;
    }

    /** Every third run lets the system grow undisturbed, and every third one draws systems that are built whole. */
    private void go(int kind) {
        if (kind == 2) {
            drawSystems();
            return;
        }
        List<String> urn = urn();
        if (kind == 1) {
            urn.removeIf(method -> method.matches("explore|clearSystem|restoreSnapshot"));
        }
        int calls = 0;
        while (calls < CALLS && right) {
            int choice = random.nextInt(60);
            if (choice == 0) {
                calls += typeRule();
            } else if (choice == 1 && kind == 0) {
                calls += typeStart();
            } else {
                calls += callAny(urn);
            }
        }
    }

    /** Sparse systems, in which joining paths are long; each peak is drawn and its text is read whole. */
    private void drawSystems() {
        for (int system = 0; system < 6; system++) {
            call("clearSystem");
            build(4 + random.nextInt(11));
            for (int peak = 0; peak <= tested.peakCount() && peak < 12; peak++) {
                call("isDecreasing", peak);
                call("valley", peak);
                call("joinLength", peak, random.nextInt(2));
                call("joinStep", peak, random.nextInt(2), random.nextInt(6));
                call("draw", peak);
                for (int i = 0; tested.output(i) >= 0; i++) {
                    call("output", i);
                }
            }
            call("firstFailure");
            call("decreasingCount");
            call("counterexample");
            call("saveReachable", 0);
            call("labellingCount", 2);
        }
    }

    private void build(int size) {
        for (int object = 0; object < size; object++) {
            call("addObject");
        }
        for (int pair = random.nextInt(12); pair >= 0; pair--) {
            call("addGreater", random.nextInt(labels), random.nextInt(labels));
        }
        if (random.nextInt(3) == 0) {
            call("useNaturalOrder");
        }
        call("addStep", 0, 1, labels - 1);
        call("addStep", 0, 2, random.nextInt(labels));
        for (int object = 1; object < size; object++) {
            call("addStep", object, (object + 1) % size, random.nextInt(labels));
        }
        for (int step = random.nextInt(5); step >= 0; step--) {
            call("addStep", 1 + random.nextInt(size - 1), random.nextInt(size), random.nextInt(labels));
        }
        for (int step = random.nextInt(3); step >= 0; step--) {
            call("removeStep", random.nextInt(tested.stepCount()));
        }
    }

    private static List<String> urn() {
        List<String> urn = new ArrayList<>();
        for (String method : METHODS) {
            int space = method.indexOf(' ');
            for (int i = 0; i < Integer.parseInt(method.substring(0, space)); i++) {
                urn.add(method.substring(space + 1));
            }
        }
        return urn;
    }

    private int callAny(List<String> urn) {
        String[] words = urn.get(random.nextInt(urn.size())).split(" ");
        boolean enough = words[0].equals("addObject") && objects < 16 && tested.objectCount() >= objects;
        boolean tooSoon = words[0].matches("clearSystem|explore") && tested.stepCount() < 6;
        if (enough || tooSoon) {
            words = new String[] {"addStep", "object", "object", "label"};
        }
        Object[] arguments = new Object[words.length - 1];
        for (int i = 1; i < words.length; i++) {
            arguments[i - 1] = argument(words[i]);
        }
        call(words[0], arguments);
        return 1;
    }

    private Object argument(String kind) {
        if (kind.equals("value")) {
            return random.nextInt(3) == 0 ? random.nextLong() : (Object) (long) random.nextInt(1 << 4);
        }
        if (random.nextInt(25) == 0) {
            int[] wild = {-1, Integer.MIN_VALUE, Integer.MAX_VALUE, 8, 16, 17, 32, 33, -2, 3, 64};
            return wild[random.nextInt(wild.length)];
        }
        switch (kind) {
            case "label":
                return random.nextInt(labels);
            case "object":
                return below(tested.objectCount());
            case "step":
                return below(tested.stepCount());
            case "peak":
                return below(tested.peakCount());
            case "side":
                return random.nextInt(2);
            case "position":
                return random.nextInt(4);
            case "outputPosition":
                return random.nextInt(30);
            case "k":
                return random.nextInt(12) == 0 ? 3 : 1 + random.nextInt(2);
            case "byte":
                return (int) "aabbcc>>d".charAt(random.nextInt(9));
            case "depth":
                return random.nextInt(3);
            case "array":
                return random.nextInt(3);
            case "size":
                return random.nextInt(4) == 0 ? random.nextInt(18) - 1 : random.nextInt(6);
            case "index":
                return random.nextInt(4) == 0 ? random.nextInt(17) : random.nextInt(5);
            default:
                throw new IllegalStateException(kind);
        }
    }

    /** A number that exists, or now and then the first that does not. */
    private int below(int count) {
        return count == 0 || random.nextInt(20) == 0 ? count : random.nextInt(count);
    }

    private int typeRule() {
        String rule = word(1 + random.nextInt(3)) + ">" + word(random.nextInt(4));
        if (random.nextInt(6) == 0) {
            rule = rule + word(random.nextInt(5));
        }
        type(rule);
        call("addRule");
        return rule.length() + 1;
    }

    private int typeStart() {
        String start = word(1 + random.nextInt(random.nextInt(5) == 0 ? 9 : 6));
        type(start);
        call("explore");
        call("failure", random.nextInt(3));
        return start.length() + 2;
    }

    private void type(String signs) {
        for (int i = 0; i < signs.length(); i++) {
            call("feed", (int) signs.charAt(i));
        }
    }

    private String word(int length) {
        StringBuilder word = new StringBuilder();
        for (int i = 0; i < length; i++) {
            word.append((char) ('a' + random.nextInt(3)));
        }
        return word.toString();
    }

    private void call(String name, Object... arguments) {
        if (!right) {
            return;
        }
        long got = answer(OF_CLASS.get(name), tested, arguments);
        long want = answer(OF_ORACLE.get(name), oracle, arguments);
        told.add(name + Arrays.toString(arguments) + " = " + got);
        ANSWERS.merge(name + " " + got, 1, Integer::sum);
        if (got != want) {
            right = false;
            told.add("due is " + want);
        }
    }

    private static long answer(Method method, Object object, Object[] arguments) {
        try {
            return ((Number) method.invoke(object, arguments)).longValue();
        } catch (InvocationTargetException | IllegalAccessException e) {
            throw new IllegalStateException(method.getName() + Arrays.toString(arguments), e);
        }
    }
}
