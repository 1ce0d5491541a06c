/** Promises 25 to 34: local peaks, decreasing peaks, joining paths and the output. */
public final class PeakTest {
    public static void main(String[] args) {
        numbering();
        partsOfSuitablePaths();
        partsThatOverlap();
        valley();
        joiningPaths();
        counts();
        draw();
        output();
        wrongArguments();
        Script.finish();
    }

    private static String objects(int count) {
        StringBuilder script = new StringBuilder();
        for (int object = 0; object < count; object++) {
            script.append("addObject() = ").append(object).append('\n');
        }
        return script.toString();
    }

    private static void numbering() {
        Script.run("25 and 26, ordered by the first step, then by the second", objects(3) + """
            peakCount() = 0; addStep(1, 0, 0) = 0; addStep(0, 1, 0) = 1; addStep(1, 2, 0) = 2; addStep(0, 2, 0) = 3
            addStep(1, 0, 0) = 4; addStep(2, 2, 0) = 5; peakCount() = 4
            peakStep(0, 0) = 0; peakStep(0, 1) = 2; peakStep(1, 0) = 0; peakStep(1, 1) = 4; peakStep(2, 0) = 1
            peakStep(2, 1) = 3; peakStep(3, 0) = 2; peakStep(3, 1) = 4; peakStep(4, 0) = BAD_ARGUMENT
            removeStep(2) = 5; peakCount() = 2; peakStep(0, 0) = 0; peakStep(0, 1) = 3; peakStep(1, 0) = 1; peakStep(1, 1) = 2
            """);
    }

    /** Left side of peak 0: own 1, other 2, from object 1; right side: nothing leaves object 2. */
    private static String leftSide() {
        return objects(5) + "addStep(0, 1, 1) = 0; addStep(0, 2, 2) = 1\n";
    }

    private static void partsOfSuitablePaths() {
        Script.run("27, one step with the other label needs no order", leftSide() + """
            isDecreasing(0) = 0; addStep(1, 2, 2) = 2; isDecreasing(0) = 1; setLabel(2, 1) = 2; isDecreasing(0) = 0
            """);
        Script.run("27, two steps with the other label are too many", leftSide() + """
            addStep(1, 3, 2) = 2; addStep(3, 2, 2) = 3; isDecreasing(0) = 0; addGreater(2, 1) = 1; isDecreasing(0) = 0
            removeGreater(2, 1) = 1; addGreater(1, 2) = 1; isDecreasing(0) = 1
            """);
        Script.run("27, first part, below the own label, then the other label", leftSide() + """
            addStep(1, 3, 0) = 2; addStep(3, 4, 0) = 3; addStep(4, 2, 2) = 4; isDecreasing(0) = 0; addGreater(2, 0) = 1
            isDecreasing(0) = 0; addGreater(1, 0) = 1; isDecreasing(0) = 1; removeGreater(2, 0) = 1; isDecreasing(0) = 1
            """);
        Script.run("27, third part, below the other label, behind the other label", leftSide() + """
            addStep(1, 3, 2) = 2; addStep(3, 4, 0) = 3; addStep(4, 2, 0) = 4; isDecreasing(0) = 0; addGreater(2, 0) = 1
            isDecreasing(0) = 1; removeGreater(2, 0) = 1; addGreater(1, 0) = 1; isDecreasing(0) = 1
            """);
        Script.run("27, third part without a second one mixes both", leftSide() + """
            addStep(1, 3, 4) = 2; addStep(3, 4, 3) = 3; addStep(4, 2, 4) = 4; addGreater(2, 4) = 1; isDecreasing(0) = 0
            addGreater(1, 3) = 1; isDecreasing(0) = 1; setLabel(4, 2) = 4; isDecreasing(0) = 0
            """);
        Script.run("27, the own label alone is never enough", leftSide() + """
            useNaturalOrder() = 0; addStep(1, 2, 1) = 2; isDecreasing(0) = 1; removeGreater(2, 1) = 1; isDecreasing(0) = 0
            """);
        Script.run("27, the right side", objects(4) + """
            addStep(0, 1, 3) = 0; addStep(0, 2, 5) = 1; addStep(2, 3, 3) = 2; addStep(3, 1, 4) = 3; isDecreasing(0) = 0
            addGreater(5, 4) = 1; isDecreasing(0) = 1; setLabel(0, 2) = 3; isDecreasing(0) = 0; addGreater(4, 3) = 1
            isDecreasing(0) = 1
            """);
        Script.run("27, equal targets and a loop need no path", objects(2) + """
            addStep(0, 1, 7) = 0; addStep(0, 1, 6) = 1; isDecreasing(0) = 1; valley(0) = 1; joinLength(0, 0) = 0
            joinLength(0, 1) = 0; addStep(0, 0, 5) = 2; isDecreasing(1) = 1; valley(1) = 1; joinLength(1, 0) = 0
            joinLength(1, 1) = 1; joinStep(1, 1, 0) = 0
            """);
    }

    private static void partsThatOverlap() {
        Script.run("27, an object is met again in the first part, later than in the last part", leftSide() + """
            addGreater(1, 0) = 1; addStep(1, 3, 2) = 2; addStep(1, 4, 0) = 3; addStep(4, 3, 0) = 4; addStep(3, 2, 2) = 5
            isDecreasing(0) = 1; valley(0) = 2; joinLength(0, 0) = 3; joinLength(0, 1) = 0; joinStep(0, 0, 0) = 3
            joinStep(0, 0, 1) = 4; joinStep(0, 0, 2) = 5; joinStep(0, 0, 3) = NONE; draw(0) = 17; text() = 1<0-0-1>2:.3.4.5,
            """);
        Script.run("27, a step that could be of several parts is used as the earliest", leftSide() + """
            addGreater(1, 2) = 1; addStep(1, 3, 2) = 2; addStep(3, 4, 2) = 3; addStep(4, 2, 2) = 4; joinLength(0, 0) = 3
            """);
        Script.run("27, both labels equal", objects(4) + """
            addStep(0, 1, 3) = 0; addStep(0, 2, 3) = 1; addStep(1, 3, 3) = 2; addStep(2, 3, 3) = 3; isDecreasing(0) = 1
            valley(0) = 3; joinLength(0, 0) = 1; joinLength(0, 1) = 1; setLabel(2, 4) = 3; isDecreasing(0) = 0
            addGreater(3, 4) = 1; isDecreasing(0) = 1
            """);
    }

    private static void valley() {
        Script.run("28, the least sum, then the lowest object", objects(7) + """
            addStep(0, 5, 1) = 0; addStep(0, 6, 1) = 1; valley(0) = NONE; addGreater(1, 0) = 1; addStep(5, 4, 0) = 2
            addStep(6, 4, 0) = 3; valley(0) = 4; addStep(5, 3, 0) = 4; addStep(6, 3, 0) = 5; valley(0) = 3
            addStep(4, 2, 0) = 6; addStep(3, 2, 0) = 7; valley(0) = 3; addStep(5, 6, 0) = 8; valley(0) = 6
            joinLength(0, 0) = 1; joinLength(0, 1) = 0; joinStep(0, 0, 0) = 8; joinStep(0, 1, 0) = NONE
            """);
        Script.run("28, two and none against one and one", objects(6) + """
            useNaturalOrder() = 0; addStep(0, 4, 1) = 0; addStep(0, 2, 1) = 1; addStep(4, 5, 0) = 2; addStep(5, 2, 0) = 3
            addStep(2, 3, 0) = 4; addStep(4, 3, 0) = 5; valley(0) = 2; joinLength(0, 0) = 2; joinLength(0, 1) = 0
            addStep(4, 1, 0) = 6; addStep(2, 1, 0) = 7; valley(0) = 1; joinLength(0, 0) = 1; joinLength(0, 1) = 1
            """);
        Script.run("28, the lowest object is 0", objects(3) + """
            addStep(0, 1, 0) = 0; addStep(0, 2, 0) = 1; addStep(1, 0, 0) = 2; addStep(2, 0, 0) = 3; valley(0) = 0
            addStep(1, 2, 0) = 4; valley(0) = 2
            """);
    }

    private static void joiningPaths() {
        Script.run("29 and 30, the lexicographically smallest of the shortest", objects(6) + """
            useNaturalOrder() = 0; addStep(0, 1, 7) = 0; addStep(0, 2, 7) = 1; addStep(5, 2, 0) = 2; addStep(4, 2, 0) = 3
            addStep(1, 4, 1) = 4; addStep(1, 5, 1) = 5; addStep(1, 4, 1) = 6; addStep(4, 2, 1) = 7
            valley(0) = 2; joinLength(0, 0) = 2; joinStep(0, 0, 0) = 4; joinStep(0, 0, 1) = 3; joinStep(0, 0, 2) = NONE
            joinStep(0, 0, -1) = NONE; joinLength(0, 1) = 0; joinStep(0, 1, 0) = NONE
            removeStep(3) = 7; joinStep(0, 0, 0) = 3; joinStep(0, 0, 1) = 6
            """);
        Script.run("29 and 30, a lower first step through a later part", objects(5) + """
            addGreater(1, 0) = 1; addStep(0, 1, 1) = 0; addStep(0, 2, 2) = 1; addStep(3, 2, 0) = 2; addStep(1, 3, 2) = 3
            addStep(1, 3, 0) = 4; addStep(3, 2, 2) = 5; joinLength(0, 0) = 2; joinStep(0, 0, 0) = 3; joinStep(0, 0, 1) = 2
            setLabel(2, 7) = 0; joinLength(0, 0) = 2; joinStep(0, 0, 0) = 4; joinStep(0, 0, 1) = 5
            """);
        Script.run("29 and 30, the right side", objects(5) + """
            useNaturalOrder() = 0; addStep(0, 1, 2) = 0; addStep(0, 2, 3) = 1; addStep(2, 3, 1) = 2; addStep(3, 4, 2) = 3
            addStep(4, 1, 0) = 4; valley(0) = 1; joinLength(0, 0) = 0; joinLength(0, 1) = 3; joinStep(0, 1, 0) = 2
            joinStep(0, 1, 1) = 3; joinStep(0, 1, 2) = 4; joinStep(0, 1, 3) = NONE; joinStep(0, 1, MAX_INT) = NONE
            joinStep(0, 1, MIN_INT) = NONE; joinStep(0, 0, 0) = NONE
            """);
        Script.run("29 and 30, a peak that is not decreasing", objects(3) + """
            addStep(0, 1, 0) = 0; addStep(0, 2, 0) = 1; joinLength(0, 0) = NONE; joinLength(0, 1) = NONE
            joinStep(0, 0, 0) = NONE; joinStep(0, 1, 0) = NONE; joinStep(0, 2, 0) = BAD_ARGUMENT
            joinStep(1, 0, 0) = BAD_ARGUMENT; joinLength(0, 2) = BAD_ARGUMENT; joinLength(0, -1) = BAD_ARGUMENT
            """);
    }

    private static void counts() {
        Script.run("31 and 32, some peaks fail", objects(4) + """
            decreasingCount() = 0; firstFailure() = NONE; addStep(0, 1, 0) = 0; addStep(0, 1, 0) = 1; addStep(0, 2, 0) = 2
            peakCount() = 3; decreasingCount() = 1; firstFailure() = 1; addStep(1, 2, 0) = 3; decreasingCount() = 3
            firstFailure() = NONE; addStep(1, 3, 0) = 4; peakCount() = 4; decreasingCount() = 3; firstFailure() = 3
            setLabel(2, 1) = 0; decreasingCount() = 1; firstFailure() = 1; addGreater(1, 0) = 1; decreasingCount() = 3
            """);
    }

    private static void draw() {
        Script.run("33, a peak that fails and one that does not", objects(4) + """
            addStep(0, 1, 1) = 0; addStep(0, 2, 2) = 1; addStep(1, 3, 0) = 2; addStep(2, 3, 0) = 3; draw(0) = 10
            text() = 1<0-0-1>2!; useNaturalOrder() = 0; text() = 1<0-0-1>2!; draw(0) = 15; text() = 1<0-0-1>2:.2,.3
            draw(1) = BAD_ARGUMENT; draw(-1) = BAD_ARGUMENT; text() = 1<0-0-1>2:.2,.3; clearSystem() = 4
            draw(0) = BAD_ARGUMENT; text() = 1<0-0-1>2:.2,.3
            """);
        Script.run("33, a shorter text replaces a longer one whole", objects(2) + """
            addStep(0, 1, 0) = 0; addStep(0, 0, 0) = 1; addStep(0, 0, 0) = 2; draw(0) = 13; text() = 1<0-0-1>0:,.0
            draw(2) = 11; text() = 0<1-0-2>0:,; output(11) = NONE
            """);
        StringBuilder script = new StringBuilder(objects(16));
        script.append("useNaturalOrder() = 0\n");
        for (int step = 0; step < 11; step++) {
            script.append("addStep(1, 1, 0) = ").append(step).append('\n');
        }
        Script.run("33, numbers of two digits", script + """
            addStep(10, 14, 7) = 11; addStep(10, 15, 6) = 12; addStep(15, 13, 0) = 13; addStep(13, 14, 5) = 14
            addStep(14, 14, 0) = 15; peakCount() = 56; draw(55) = 22; text() = 14<11-10-12>15:,.13.14
            """);
        StringBuilder line = new StringBuilder(objects(16));
        line.append("useNaturalOrder() = 0\naddStep(15, 14, 7) = 0\naddStep(15, 0, 7) = 1\n");
        for (int step = 2; step < 16; step++) {
            line.append("addStep(").append(16 - step).append(", ").append(15 - step).append(", 0) = ").append(step)
                .append('\n');
        }
        Script.run("33, a long path", line + """
            joinLength(0, 0) = 14; joinLength(0, 1) = 0; joinStep(0, 0, 0) = 2; joinStep(0, 0, 13) = 15
            joinStep(0, 0, 14) = NONE; draw(0) = 47; text() = 14<0-15-1>0:.2.3.4.5.6.7.8.9.10.11.12.13.14.15,
            """);
    }

    private static void output() {
        Script.run("34, positions", objects(2) + """
            output(0) = NONE; output(-1) = NONE; addStep(0, 1, 0) = 0; addStep(0, 1, 0) = 1; draw(0) = 11; output(0) = 49
            output(1) = 60; output(2) = 48; output(3) = 45; output(4) = 48; output(5) = 45; output(6) = 49; output(7) = 62
            output(8) = 49; output(9) = 58; output(10) = 44; output(11) = NONE; output(-1) = NONE; output(MAX_INT) = NONE
            output(MIN_INT) = NONE
            """);
    }

    private static void wrongArguments() {
        Script.run("26 to 30 and 33, wrong peaks and sides", objects(2) + """
            isDecreasing(0) = BAD_ARGUMENT; valley(0) = BAD_ARGUMENT; draw(0) = BAD_ARGUMENT; joinLength(0, 0) = BAD_ARGUMENT
            joinStep(0, 0, 0) = BAD_ARGUMENT; peakStep(0, 0) = BAD_ARGUMENT; addStep(0, 1, 0) = 0; addStep(0, 1, 0) = 1
            isDecreasing(1) = BAD_ARGUMENT; valley(1) = BAD_ARGUMENT; draw(1) = BAD_ARGUMENT; joinLength(1, 0) = BAD_ARGUMENT
            joinStep(1, 0, 0) = BAD_ARGUMENT; peakStep(1, 0) = BAD_ARGUMENT; peakStep(0, 2) = BAD_ARGUMENT
            peakStep(0, -1) = BAD_ARGUMENT; joinLength(0, 2) = BAD_ARGUMENT; joinLength(0, -1) = BAD_ARGUMENT
            joinStep(0, 2, 0) = BAD_ARGUMENT; joinStep(0, -1, 0) = BAD_ARGUMENT; isDecreasing(-1) = BAD_ARGUMENT
            valley(-1) = BAD_ARGUMENT; draw(MIN_INT) = BAD_ARGUMENT; joinLength(-1, 0) = BAD_ARGUMENT
            joinStep(-1, 0, 0) = BAD_ARGUMENT; peakStep(MAX_INT, 0) = BAD_ARGUMENT; output(0) = NONE; joinStep(0, 1, 0) = NONE
            """);
    }
}
