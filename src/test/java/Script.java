import java.lang.reflect.Field;
import java.lang.reflect.InvocationTargetException;
import java.lang.reflect.Method;
import java.util.ArrayList;
import java.util.HashMap;
import java.util.List;
import java.util.Map;

/**
 * Runs calls that are written as the document writes its examples: "addObject() = 0; distance(0, 0) = 0", on a new
 * object, and prints each call whose answer is not the one that is due. An answer may be a constant's name.
 *
 * Two calls are the script's own: type(ab>c) feeds each of these signs and answers the last feed; text() reads the
 * output, and its answer is compared as text.
 */
final class Script {
    private static int wrong = 0;
    private static int calls = 0;
    /** The calls of the object that is in use; nothing is promised of an object after its 512th. */
    private static int used = 0;
    private static final Map<String, Method> METHODS = methods();

    private Script() {
    }

    static void run(String name, String script) {
        used = 0;
        DecreasingDiagrams object = new DecreasingDiagrams();
        for (String line : linesOf(script)) {
            String want = line.substring(endOf(line) + 4).strip();
            String what = name + ": " + line.substring(0, endOf(line) + 1);
            Object got = answer(object, line);
            due(what, got, got instanceof String ? want : (Object) number(want));
        }
        due(name + ": a run of " + used + " calls is too long", used > 512, false);
    }

    /** A new object behind the calls of a script, whatever they answer. */
    static DecreasingDiagrams replay(String script) {
        DecreasingDiagrams object = new DecreasingDiagrams();
        for (String line : linesOf(script)) {
            answer(object, line);
        }
        return object;
    }

    static void due(String what, Object got, Object want) {
        calls++;
        if (!want.equals(got)) {
            wrong++;
            System.out.println(what + " answered " + got + ", due is " + want);
        }
    }

    /** Ends the test; the exit code is 1 if an answer was wrong. */
    static void finish() {
        System.out.println(calls + " answers, " + wrong + " wrong");
        if (wrong != 0 || calls == 0) {
            System.exit(1);
        }
    }

    private static List<String> linesOf(String script) {
        List<String> lines = new ArrayList<>();
        for (String line : script.split("[;\n]")) {
            if (!line.isBlank()) {
                lines.add(line.strip());
            }
        }
        return lines;
    }

    private static int endOf(String line) {
        return line.lastIndexOf(") = ");
    }

    private static Object answer(DecreasingDiagrams object, String line) {
        int open = line.indexOf('(');
        String method = line.substring(0, open);
        String inside = line.substring(open + 1, endOf(line));
        switch (method) {
            case "type":
                return type(object, inside);
            case "text":
                return text(object);
            default:
                return invoke(object, method, inside);
        }
    }

    private static long type(DecreasingDiagrams object, String signs) {
        long answer = 0;
        used += signs.length();
        for (int i = 0; i < signs.length(); i++) {
            answer = object.feed(signs.charAt(i));
        }
        return answer;
    }

    private static String text(DecreasingDiagrams object) {
        StringBuilder text = new StringBuilder();
        int sign = object.output(0);
        while (sign != DecreasingDiagrams.NONE) {
            text.append((char) sign);
            sign = object.output(text.length());
        }
        used += text.length() + 1;
        return text.toString();
    }

    private static long invoke(DecreasingDiagrams object, String name, String inside) {
        used++;
        String[] words = inside.isBlank() ? new String[0] : inside.split(",");
        Method method = METHODS.get(name);
        if (method == null || method.getParameterCount() != words.length) {
            throw new IllegalStateException("no method " + name + "(" + inside + ")");
        }
        Object[] arguments = new Object[words.length];
        for (int i = 0; i < words.length; i++) {
            long value = number(words[i].strip());
            boolean isLong = method.getParameterTypes()[i] == long.class;
            arguments[i] = isLong ? (Object) value : (Object) Math.toIntExact(value);
        }
        try {
            return ((Number) method.invoke(object, arguments)).longValue();
        } catch (InvocationTargetException | IllegalAccessException e) {
            throw new IllegalStateException(name + "(" + inside + ") was thrown out of", e);
        }
    }

    private static Map<String, Method> methods() {
        Map<String, Method> methods = new HashMap<>();
        for (Method method : DecreasingDiagrams.class.getMethods()) {
            methods.put(method.getName(), method);
        }
        return methods;
    }

    private static long number(String word) {
        if (!Character.isLetter(word.charAt(0))) {
            return Long.parseLong(word);
        }
        switch (word) {
            case "MIN_INT":
                return Integer.MIN_VALUE;
            case "MAX_INT":
                return Integer.MAX_VALUE;
            case "MIN_LONG":
                return Long.MIN_VALUE;
            case "MAX_LONG":
                return Long.MAX_VALUE;
            default:
                return constant(word);
        }
    }

    private static long constant(String word) {
        try {
            Field field = DecreasingDiagrams.class.getField(word);
            return field.getInt(null);
        } catch (ReflectiveOperationException e) {
            throw new IllegalStateException("no constant " + word, e);
        }
    }
}
