import java.io.IOException;
import java.lang.reflect.Constructor;
import java.lang.reflect.Field;
import java.lang.reflect.Method;
import java.lang.reflect.Modifier;
import java.util.ArrayList;
import java.util.List;
import java.util.TreeSet;

/** The public face of the document, member for member, and the rules 1, 2, 5 and 11 of LANGUAGE.md as far as classes show them. */
public final class FaceTest {
    private static final String[] METHODS = {
        "int addGreater(int,int)", "int removeGreater(int,int)", "int isGreater(int,int)", "int useNaturalOrder()",
        "int addObject()", "int addStep(int,int,int)", "int removeStep(int)", "int setLabel(int,int)", "int clearSystem()",
        "int objectCount()", "int stepCount()", "int source(int)", "int target(int)", "int label(int)",
        "int distance(int,int)", "int reachable(int)", "int normalForm(int)", "int component(int)", "int isTerminating()",
        "int longestPath(int)", "int isConfluent()", "int counterexample()", "int isLocallyConfluent()", "int peakCount()",
        "int peakStep(int,int)", "int isDecreasing(int)", "int valley(int)", "int joinLength(int,int)",
        "int joinStep(int,int,int)", "int decreasingCount()", "int firstFailure()", "int draw(int)", "int output(int)",
        "int findLabelling(int)", "int labellingCount(int)", "int foundLabel(int)", "int applyLabelling()", "int feed(int)",
        "int addRule()", "int clearRules()", "int explore()", "int failure(int)", "int wordLength(int)",
        "int letter(int,int)", "int newArray(int,int)", "int setElement(int,int,long)", "long element(int,int)",
        "int saveReachable(int)", "int compareReachable(int)", "int saveSnapshot()", "int restoreSnapshot()"
    };

    private static final String[] CONSTANTS = {
        "BAD_ARGUMENT=-1", "NONE=-2", "FULL=-3", "CYCLE=-4", "TOO_LARGE=-5", "EXPLORATION_FAILED=-6", "AMBIGUOUS=-7",
        "NULL_ARRAY=-11", "INDEX_OUT_OF_RANGE=-13", "NEGATIVE_SIZE=-14", "SYNTAX_ERROR=-100"
    };

    public static void main(String[] args) throws ReflectiveOperationException, IOException {
        Class<?> type = DecreasingDiagrams.class;
        checkDocument();
        Script.due("modifiers of the class", Modifier.toString(type.getModifiers()), "public final");
        Script.due("methods", methodsOf(type), new TreeSet<>(List.of(METHODS)));
        Script.due("constants", constantsOf(type), new TreeSet<>(List.of(CONSTANTS)));
        Script.due("constructors", type.getDeclaredConstructors().length, 1);
        Constructor<?> constructor = type.getDeclaredConstructors()[0];
        Script.due("constructor", constructor.toString(), "public DecreasingDiagrams()");
        for (Method method : type.getDeclaredMethods()) {
            if (Modifier.isPrivate(method.getModifiers())) {
                checkName(method);
            }
        }
        for (Class<?> inside : type.getDeclaredClasses()) {
            checkInside(inside);
        }
        Script.due("at most twelve classes", type.getDeclaredClasses().length + 1 <= 12, true);
        checkFields(type);
        Script.finish();
    }

    /** The rows above are those of the document's face. */
    private static void checkDocument() throws IOException {
        TreeSet<String> face = new TreeSet<>();
        for (String member : Document.face()) {
            face.add(member.replaceAll("^public |static final int |;$", "").replace(" = ", "=")
                .replaceAll("(int|long) \\w+(?=[,)])", "$1").replace(", ", ","));
        }
        TreeSet<String> known = new TreeSet<>(List.of(METHODS));
        known.addAll(List.of(CONSTANTS));
        known.add("DecreasingDiagrams()");
        Script.due("the document's face", face, known);
    }

    private static TreeSet<String> methodsOf(Class<?> type) {
        TreeSet<String> methods = new TreeSet<>();
        for (Method method : type.getDeclaredMethods()) {
            if (!Modifier.isPrivate(method.getModifiers())) {
                List<String> parameters = new ArrayList<>();
                for (Class<?> parameter : method.getParameterTypes()) {
                    parameters.add(parameter.getName());
                }
                String kind = Modifier.toString(method.getModifiers()).equals("public") ? "" : "not just public: ";
                methods.add(kind + method.getReturnType() + " " + method.getName() + "(" + String.join(",", parameters) + ")");
            }
        }
        return methods;
    }

    private static TreeSet<String> constantsOf(Class<?> type) throws IllegalAccessException {
        TreeSet<String> constants = new TreeSet<>();
        for (Field field : type.getDeclaredFields()) {
            if (!Modifier.isPrivate(field.getModifiers())) {
                boolean plain = Modifier.toString(field.getModifiers()).equals("public static final") && field.getType() == int.class;
                constants.add(plain ? field.getName() + "=" + field.getInt(null) : "not a constant: " + field);
            }
        }
        return constants;
    }

    private static void checkInside(Class<?> inside) {
        int modifiers = inside.getModifiers();
        Script.due(inside + " is static", Modifier.isStatic(modifiers), true);
        Script.due(inside + " is not public", Modifier.isPublic(modifiers) || Modifier.isProtected(modifiers), false);
        Script.due(inside + " holds no class", inside.getDeclaredClasses().length, 0);
        for (Method method : inside.getDeclaredMethods()) {
            checkName(method);
        }
        checkFields(inside);
    }

    private static void checkName(Method method) {
        for (String known : METHODS) {
            boolean same = known.contains(" " + method.getName() + "(");
            Script.due(method + " bears a public name", same, false);
        }
    }

    private static void checkFields(Class<?> type) {
        int fields = 0;
        for (Field field : type.getDeclaredFields()) {
            if (Modifier.isStatic(field.getModifiers())) {
                Script.due(field + " is final", Modifier.isFinal(field.getModifiers()), true);
                Script.due(field + " is a plain constant", field.getType() == int.class, true);
            } else {
                fields++;
            }
        }
        Script.due(type + " has at most twenty fields", fields <= 20, true);
    }
}
