/** Promises 46 to 50: the arrays. */
public final class ArrayTest {
    public static void main(String[] args) {
        newArray();
        setElement();
        element();
        saveReachable();
        compareReachable();
        Script.finish();
    }

    private static void newArray() {
        Script.run("46, sizes from 0 to 16", """
            newArray(0, 0) = 1; element(0, 0) = MIN_LONG; newArray(0, 16) = 1; element(0, 0) = 0; element(0, 15) = 0
            element(0, 16) = MIN_LONG; newArray(2, 1) = 1; element(2, 0) = 0; element(2, 1) = MIN_LONG; element(1, 0) = MIN_LONG
            """);
        Script.run("46, errors leave the array", """
            newArray(0, 2) = 1; setElement(0, 1, 9) = 1; newArray(0, 17) = BAD_ARGUMENT; newArray(0, -1) = NEGATIVE_SIZE
            newArray(3, 2) = BAD_ARGUMENT; newArray(-1, 2) = BAD_ARGUMENT; newArray(3, -1) = BAD_ARGUMENT
            newArray(-1, -1) = BAD_ARGUMENT; newArray(0, MIN_INT) = NEGATIVE_SIZE; newArray(0, MAX_INT) = BAD_ARGUMENT
            element(0, 1) = 9; element(0, 2) = MIN_LONG; newArray(1, -1) = NEGATIVE_SIZE; element(1, 0) = MIN_LONG
            setElement(1, 0, 0) = NULL_ARRAY
            """);
        Script.run("46, a new array in place of an old one is 0 everywhere", """
            newArray(1, 16) = 1; setElement(1, 0, 5) = 1; setElement(1, 15, 6) = 1; newArray(1, 3) = 1; element(1, 0) = 0
            element(1, 3) = MIN_LONG; newArray(1, 16) = 1; element(1, 15) = 0
            """);
    }

    private static void setElement() {
        Script.run("47, any long", """
            newArray(0, 2) = 1; newArray(1, 2) = 1; setElement(0, 0, MIN_LONG) = 1; element(0, 0) = MIN_LONG
            setElement(0, 1, MAX_LONG) = 1; element(0, 1) = MAX_LONG; setElement(0, 1, -5000000000) = 1
            element(0, 1) = -5000000000; element(1, 0) = 0; element(1, 1) = 0
            """);
        Script.run("47, errors in their order", """
            setElement(3, 0, 1) = BAD_ARGUMENT; setElement(-1, 0, 1) = BAD_ARGUMENT; setElement(3, -1, 1) = BAD_ARGUMENT
            setElement(0, 0, 1) = NULL_ARRAY; setElement(0, -1, 1) = NULL_ARRAY; newArray(0, 0) = 1
            setElement(0, 0, 1) = INDEX_OUT_OF_RANGE; newArray(0, 2) = 1; setElement(0, 2, 1) = INDEX_OUT_OF_RANGE
            setElement(0, -1, 1) = INDEX_OUT_OF_RANGE; setElement(0, MIN_INT, 1) = INDEX_OUT_OF_RANGE
            setElement(0, MAX_INT, 1) = INDEX_OUT_OF_RANGE; element(0, 0) = 0; element(0, 1) = 0
            """);
    }

    private static void element() {
        Script.run("48, no such element", """
            element(0, 0) = MIN_LONG; element(3, 0) = MIN_LONG; element(-1, 0) = MIN_LONG; newArray(2, 3) = 1
            setElement(2, 2, 7) = 1; element(2, 2) = 7; element(2, 3) = MIN_LONG; element(2, -1) = MIN_LONG
            element(2, MIN_INT) = MIN_LONG; element(2, MAX_INT) = MIN_LONG; element(3, 2) = MIN_LONG
            """);
    }

    private static void saveReachable() {
        Script.run("49, a set for each object", """
            addObject() = 0; addObject() = 1; addObject() = 2; addStep(0, 1, 0) = 0; addStep(1, 2, 0) = 1; newArray(1, 16) = 1
            setElement(1, 2, 99) = 1; setElement(1, 5, 99) = 1; saveReachable(1) = 3; element(1, 0) = 7; element(1, 1) = 6
            element(1, 2) = 4; element(1, 3) = MIN_LONG; element(0, 0) = MIN_LONG; saveReachable(3) = BAD_ARGUMENT
            saveReachable(-1) = BAD_ARGUMENT; saveReachable(MIN_INT) = BAD_ARGUMENT; clearSystem() = 3; element(1, 0) = 7
            saveReachable(1) = 0; element(1, 0) = MIN_LONG; setElement(1, 0, 0) = INDEX_OUT_OF_RANGE
            """);
    }

    private static void compareReachable() {
        Script.run("50, the lowest index", """
            addObject() = 0; addObject() = 1; addObject() = 2; compareReachable(0) = NULL_ARRAY; saveReachable(0) = 3
            compareReachable(0) = NONE; addStep(2, 1, 0) = 0; compareReachable(0) = 2; addStep(1, 0, 0) = 1
            compareReachable(0) = 1; setElement(0, 1, 3) = 1; compareReachable(0) = 2; setElement(0, 2, 7) = 1
            compareReachable(0) = NONE; setElement(0, 0, 4294967297) = 1; compareReachable(0) = 0
            """);
        Script.run("50, an element too few or too many", """
            addObject() = 0; addObject() = 1; saveReachable(0) = 2; addObject() = 2; compareReachable(0) = 2
            newArray(1, 0) = 1; compareReachable(1) = 0; newArray(1, 4) = 1; compareReachable(1) = 0; setElement(1, 0, 1) = 1
            setElement(1, 1, 2) = 1; setElement(1, 2, 4) = 1; compareReachable(1) = 3; clearSystem() = 3
            compareReachable(1) = 0; compareReachable(0) = 0; newArray(1, 0) = 1; compareReachable(1) = NONE
            newArray(1, 16) = 1; compareReachable(1) = 0
            """);
        Script.run("50, errors", """
            compareReachable(3) = BAD_ARGUMENT; compareReachable(-1) = BAD_ARGUMENT; compareReachable(2) = NULL_ARRAY
            compareReachable(MAX_INT) = BAD_ARGUMENT
            """);
    }
}
