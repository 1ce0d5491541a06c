/** Promises 2 to 5: the label order. */
public final class LabelOrderTest {
    public static void main(String[] args) {
        addGreater();
        removeGreater();
        isGreater();
        useNaturalOrder();
        Script.finish();
    }

    private static void addGreater() {
        Script.run("2, a pair is added once", """
            addGreater(3, 1) = 1; addGreater(3, 1) = 0; addGreater(7, 0) = 1; addGreater(0, 1) = 1
            addGreater(7, 1) = 1; addGreater(7, 1) = 0
            """);
        Script.run("2, a pair against the order of numbers", """
            addGreater(0, 7) = 1; isGreater(0, 7) = 1; isGreater(7, 0) = 0; addGreater(7, 0) = CYCLE
            """);
        Script.run("2, a pair that follows already is still a pair of its own", """
            addGreater(2, 1) = 1; addGreater(1, 0) = 1; isGreater(2, 0) = 1; addGreater(2, 0) = 1; addGreater(2, 0) = 0
            removeGreater(1, 0) = 1; isGreater(2, 0) = 1
            """);
        Script.run("2, cycles leave the order as it was", """
            addGreater(0, 0) = CYCLE; addGreater(7, 7) = CYCLE
            addGreater(5, 4) = 1; addGreater(4, 6) = 1; addGreater(6, 3) = 1
            addGreater(4, 5) = CYCLE; addGreater(6, 5) = CYCLE; addGreater(3, 5) = CYCLE; addGreater(3, 4) = CYCLE
            isGreater(3, 5) = 0; isGreater(3, 4) = 0; isGreater(4, 5) = 0; useNaturalOrder() = 3
            """);
        Script.run("2, wrong labels come before a cycle", """
            addGreater(8, 0) = BAD_ARGUMENT; addGreater(0, 8) = BAD_ARGUMENT; addGreater(-1, 0) = BAD_ARGUMENT
            addGreater(0, -1) = BAD_ARGUMENT; addGreater(8, 8) = BAD_ARGUMENT; addGreater(-1, -1) = BAD_ARGUMENT
            addGreater(MAX_INT, 0) = BAD_ARGUMENT; addGreater(0, MIN_INT) = BAD_ARGUMENT; addGreater(32, 33) = BAD_ARGUMENT
            useNaturalOrder() = 0
            """);
    }

    private static void removeGreater() {
        Script.run("3, only a pair that was added can be removed", """
            removeGreater(2, 0) = 0; addGreater(2, 1) = 1; addGreater(1, 0) = 1; removeGreater(2, 0) = 0; isGreater(2, 0) = 1
            removeGreater(1, 2) = 0; removeGreater(2, 1) = 1; removeGreater(2, 1) = 0; isGreater(2, 1) = 0; isGreater(2, 0) = 0
            isGreater(1, 0) = 1; removeGreater(4, 4) = 0; useNaturalOrder() = 1
            """);
        Script.run("3, what made a cycle before may be added afterwards", """
            addGreater(2, 1) = 1; addGreater(1, 0) = 1; addGreater(0, 2) = CYCLE; removeGreater(1, 0) = 1; addGreater(0, 2) = 1
            isGreater(0, 1) = 1
            """);
        Script.run("3, wrong labels", """
            removeGreater(8, 0) = BAD_ARGUMENT; removeGreater(0, 8) = BAD_ARGUMENT; removeGreater(-1, 0) = BAD_ARGUMENT
            removeGreater(0, -1) = BAD_ARGUMENT; removeGreater(MIN_INT, MAX_INT) = BAD_ARGUMENT
            """);
    }

    private static void isGreater() {
        Script.run("4, the closure of a long chain, in both directions of numbers", """
            addGreater(0, 4) = 1; addGreater(4, 1) = 1; addGreater(1, 6) = 1; addGreater(6, 2) = 1; addGreater(2, 7) = 1
            addGreater(7, 3) = 1; addGreater(3, 5) = 1
            isGreater(0, 5) = 1; isGreater(0, 4) = 1; isGreater(4, 5) = 1; isGreater(7, 5) = 1; isGreater(5, 0) = 0
            isGreater(6, 1) = 0; isGreater(1, 3) = 1; isGreater(2, 2) = 0; addGreater(5, 0) = CYCLE
            """);
        Script.run("4, labels that can't be compared", """
            addGreater(3, 1) = 1; addGreater(3, 2) = 1; isGreater(1, 2) = 0; isGreater(2, 1) = 0; isGreater(3, 3) = 0
            """);
        Script.run("4, wrong labels", """
            isGreater(8, 0) = BAD_ARGUMENT; isGreater(0, 8) = BAD_ARGUMENT; isGreater(-1, 0) = BAD_ARGUMENT
            isGreater(0, -1) = BAD_ARGUMENT; isGreater(32, 0) = BAD_ARGUMENT; isGreater(7, 7) = 0
            """);
    }

    private static void useNaturalOrder() {
        Script.run("5, all pairs and no others", """
            addGreater(0, 7) = 1; addGreater(0, 1) = 1; useNaturalOrder() = 2; isGreater(0, 7) = 0; isGreater(0, 1) = 0
            isGreater(7, 0) = 1; isGreater(7, 6) = 1; isGreater(1, 0) = 1; isGreater(4, 3) = 1; isGreater(3, 4) = 0
            isGreater(4, 4) = 0; addGreater(5, 2) = 0; addGreater(2, 5) = CYCLE; useNaturalOrder() = 28
            removeGreater(7, 0) = 1; isGreater(7, 0) = 1; useNaturalOrder() = 27
            """);
    }
}
