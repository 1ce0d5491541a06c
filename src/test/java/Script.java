import java.lang.reflect.Field;
import java.lang.reflect.InvocationTargetException;
import java.lang.reflect.Method;

/**
 * Runs calls that are written as the document writes its examples: "addObject() = 0; distance(0, 0) = 0", on a new
 * object, and prints each call whose answer is not the one that is due. An answer may be a constant's name.
 *
 * Two calls are the script's own: type(ab>c) feeds each of these signs and answers the last feed; text() reads the
 * output, and its answer is compared as text.
 */
final class Script {
    private static int wrong = 0;
    private static int calls = 0;

    private Script() {
    }

    static void run(String name, String script) {
        DecreasingDiagrams object = new DecreasingDiagrams();
        for (String line : script.split("[;\n]")) {
            if (!line.isBlank()) {
                call(name, object, line.strip());
            }
        }
    }

    static void due(String what, Object got, Object want) {
        calls++;
        if (!want.equals(got)) {
            wrong++;
            System.out.println(what + " answered " + got + ", due is " + want);
        }
    }

    /** Ends the test; the exit code is 1 if an answer was wrong. */
    static void finish() {
        System.out.println(calls + " answers, " + wrong + " wrong");
        if (wrong != 0 || calls == 0) {
            System.exit(1);
        }
    }

    private static void call(String name, DecreasingDiagrams object, String line) {
        int open = line.indexOf('(');
        int close = line.lastIndexOf(") = ");
        String method = line.substring(0, open);
        String inside = line.substring(open + 1, close);
        String want = line.substring(close + 4).strip();
        String what = name + ": " + line.substring(0, close + 1);
        if (method.equals("type")) {
            due(what, type(object, inside), number(want));
        } else if (method.equals("text")) {
            due(what, text(object), want);
        } else {
            due(what, invoke(object, method, inside), number(want));
        }
    }

    private static long type(DecreasingDiagrams object, String signs) {
        long answer = 0;
        for (int i = 0; i < signs.length(); i++) {
            answer = object.feed(signs.charAt(i));
        }
        return answer;
    }

    private static String text(DecreasingDiagrams object) {
        StringBuilder text = new StringBuilder();
        for (int i = 0; object.output(i) != DecreasingDiagrams.NONE; i++) {
            text.append((char) object.output(i));
        }
        return text.toString();
    }

    private static long invoke(DecreasingDiagrams object, String name, String inside) {
        String[] words = inside.isBlank() ? new String[0] : inside.split(",");
        Method method = find(name);
        Object[] arguments = new Object[words.length];
        for (int i = 0; i < words.length; i++) {
            long value = number(words[i].strip());
            boolean isLong = method.getParameterTypes()[i] == long.class;
            arguments[i] = isLong ? (Object) value : (Object) Math.toIntExact(value);
        }
        try {
            return ((Number) method.invoke(object, arguments)).longValue();
        } catch (InvocationTargetException | IllegalAccessException e) {
            throw new IllegalStateException(name + "(" + inside + ") was thrown out of", e);
        }
    }

    private static Method find(String name) {
        for (Method method : DecreasingDiagrams.class.getMethods()) {
            if (method.getName().equals(name)) {
                return method;
            }
        }
        throw new IllegalStateException("no method " + name);
    }

    private static long number(String word) {
        if (!Character.isLetter(word.charAt(0))) {
            return Long.parseLong(word);
        }
        switch (word) {
            case "MIN_INT":
                return Integer.MIN_VALUE;
            case "MAX_INT":
                return Integer.MAX_VALUE;
            case "MIN_LONG":
                return Long.MIN_VALUE;
            case "MAX_LONG":
                return Long.MAX_VALUE;
            default:
                return constant(word);
        }
    }

    private static long constant(String word) {
        try {
            Field field = DecreasingDiagrams.class.getField(word);
            return field.getInt(null);
        } catch (ReflectiveOperationException e) {
            throw new IllegalStateException("no constant " + word, e);
        }
    }
}
