/** Promises 25 to 34, sentence by sentence: local peaks, joining paths and the output. */
final class PeakEdges {
    /** One object with as many local peaks as there can be, 496, all of them decreasing. */
    private static final String MOST_PEAKS = "addObject() = 0\n" + Edge.loops(0, 32);

    /**
     * Peak 0 has the longest left joining path that there can be: 1 > 2 > ... > 14 > 0 > 15, which meets all sixteen
     * objects; the right one is empty.
     */
    private static final String LONGEST_PATH = longestPath();

    private PeakEdges() {
    }

    static void run() {
        peakCount();
        peakStep();
        isDecreasing();
        valley();
        joinLength();
        joinStep();
        counts();
        draw();
        output();
    }

    private static String longestPath() {
        StringBuilder script = new StringBuilder(Edge.objects(0, 16));
        script.append("addGreater(1, 0) = 1\naddStep(0, 1, 1) = 0\naddStep(0, 15, 1) = 1\n");
        for (int step = 2; step < 16; step++) {
            script.append("addStep(%d, %d, 0) = %d%n".formatted(step - 1, step == 15 ? 0 : step, step));
        }
        return script.toString();
    }

    private static void refusedPeaks(String call) {
        Edge.range(Edge.RICH, call + " = BAD_ARGUMENT", 0, 3);
        Edge.range(MOST_PEAKS, call + " = BAD_ARGUMENT", 0, 495);
        Edge.leave("addObject() = 0; addStep(0, 0, 0) = 0", call.replace('#', '0') + " = BAD_ARGUMENT");
        Edge.run(call.replace('#', '0') + " = BAD_ARGUMENT");
        Edge.run("addObject() = 0\n" + Edge.loops(0, 2) + "removeStep(1) = 1"
            + "; " + call.replace('#', '0') + " = BAD_ARGUMENT");
    }

    private static void peakCount() {
        Edge.of(25, "Returns the number of local peaks");
        Edge.run("peakCount() = 0; addObject() = 0; peakCount() = 0; addStep(0, 0, 0) = 0; peakCount() = 0");
        Edge.run("addObject() = 0\n" + Edge.loops(0, 2) + "peakCount() = 1; addStep(0, 0, 0) = 2; peakCount() = 3");
        Edge.run("addObject() = 0; addObject() = 1; addStep(0, 1, 0) = 0; addStep(1, 0, 0) = 1; peakCount() = 0");
        Edge.run(MOST_PEAKS + "peakCount() = 496; addStep(0, 0, 0) = FULL; peakCount() = 496");
        Edge.leave(Edge.RICH, "peakCount() = 4");
    }

    private static void peakStep() {
        Edge.of(26, "Returns a step of a local peak", "Returns the step");
        Edge.leave(Edge.RICH, """
            peakStep(0, 0) = 0; peakStep(0, 1) = 1; peakStep(1, 0) = 0; peakStep(1, 1) = 6; peakStep(2, 0) = 1
            peakStep(2, 1) = 6; peakStep(3, 0) = 4; peakStep(3, 1) = 5
            """);

        Edge.of(26, "peak: the local peak", "BAD_ARGUMENT");
        Edge.run(MOST_PEAKS + """
            peakStep(0, 0) = 0; peakStep(0, 1) = 1; peakStep(30, 0) = 0; peakStep(30, 1) = 31; peakStep(31, 0) = 1
            peakStep(31, 1) = 2; peakStep(494, 0) = 29; peakStep(494, 1) = 31; peakStep(495, 0) = 30; peakStep(495, 1) = 31
            """);
        refusedPeaks("peakStep(#, 0)");
        refusedPeaks("peakStep(#, 1)");

        Edge.of(26, "side: 0 for the first step, 1 for the second step", "BAD_ARGUMENT");
        Edge.range(Edge.RICH, "peakStep(0, #) = BAD_ARGUMENT", 0, 1);
        Edge.range(Edge.RICH, "peakStep(4, #) = BAD_ARGUMENT", 0, 1);
    }

    private static void isDecreasing() {
        Edge.of(27, "Returns whether a local peak is decreasing", "Returns 1 or 0");
        Edge.leave(Edge.RICH, "isDecreasing(0) = 1; isDecreasing(1) = 0; isDecreasing(2) = 0; isDecreasing(3) = 1");
        Edge.run(LONGEST_PATH + "isDecreasing(0) = 1; removeGreater(1, 0) = 1; isDecreasing(0) = 0");

        Edge.of(27, "peak: the local peak", "BAD_ARGUMENT");
        Edge.run(MOST_PEAKS + "isDecreasing(0) = 1; isDecreasing(495) = 1");
        refusedPeaks("isDecreasing(#)");
    }

    private static void valley() {
        Edge.of(28, "Returns the valley of a local peak", "Returns the object");
        Edge.leave(Edge.RICH, "valley(0) = 3; valley(3) = 0");
        Edge.run(LONGEST_PATH + "valley(0) = 15");
        Edge.run(Edge.objects(0, 2) + "addStep(1, 0, 0) = 0; addStep(1, 0, 0) = 1; valley(0) = 0");

        Edge.of(28, "peak: the local peak", "BAD_ARGUMENT");
        Edge.run(MOST_PEAKS + "valley(0) = 0; valley(495) = 0");
        refusedPeaks("valley(#)");

        Edge.of(28, "NONE if the peak is not decreasing");
        Edge.leave(Edge.RICH, "valley(1) = NONE; valley(2) = NONE");
        Edge.run(LONGEST_PATH + "setLabel(9, 2) = 0; valley(0) = NONE");
    }

    private static void joinLength() {
        Edge.of(29, "Returns the length of a joining path", "Returns the number of steps");
        Edge.leave(Edge.RICH, "joinLength(0, 0) = 1; joinLength(0, 1) = 1; joinLength(3, 0) = 0; joinLength(3, 1) = 1");
        Edge.run(LONGEST_PATH + "joinLength(0, 0) = 15; joinLength(0, 1) = 0");
        Edge.run("addObject() = 0\n" + Edge.loops(0, 2) + "joinLength(0, 0) = 0; joinLength(0, 1) = 0");

        Edge.of(29, "peak: the local peak", "BAD_ARGUMENT");
        Edge.run(MOST_PEAKS + "joinLength(0, 0) = 0; joinLength(495, 1) = 0");
        refusedPeaks("joinLength(#, 0)");
        refusedPeaks("joinLength(#, 1)");

        Edge.of(29, "side: 0 for the left side, 1 for the right side", "BAD_ARGUMENT");
        Edge.range(Edge.RICH, "joinLength(0, #) = BAD_ARGUMENT", 0, 1);
        Edge.range(Edge.RICH, "joinLength(4, #) = BAD_ARGUMENT", 0, 1);

        Edge.of(29, "NONE if the peak is not decreasing");
        Edge.leave(Edge.RICH, "joinLength(1, 0) = NONE; joinLength(1, 1) = NONE; joinLength(2, 0) = NONE");

        Edge.of(0, "When several errors apply, the one that is listed first is reported");
        Edge.leave(Edge.RICH, "joinLength(1, 2) = BAD_ARGUMENT; joinLength(1, -1) = BAD_ARGUMENT"
            + "; joinLength(2, 2) = BAD_ARGUMENT");
    }

    private static void joinStep() {
        Edge.of(30, "Returns a step of a joining path", "Returns the step");
        Edge.leave(Edge.RICH, "joinStep(0, 0, 0) = 2; joinStep(0, 1, 0) = 3; joinStep(3, 1, 0) = 4");
        Edge.run(Edge.objects(0, 3) + "addStep(1, 2, 0) = 0; addStep(0, 1, 0) = 1; addStep(0, 2, 0) = 2"
            + "; joinLength(0, 0) = 1; joinStep(0, 0, 0) = 0");
        Edge.run("addObject() = 0\n" + Edge.loops(0, 29) + """
            addObject() = 1; addObject() = 2; addStep(1, 2, 0) = 29; addStep(1, 1, 0) = 30; addStep(2, 1, 0) = 31
            peakCount() = 407; valley(406) = 1; joinLength(406, 0) = 1; joinLength(406, 1) = 0; joinStep(406, 0, 0) = 31
            joinStep(406, 1, 0) = NONE
            """);

        Edge.of(30, "peak: the local peak", "BAD_ARGUMENT if the peak or the side does not exist");
        refusedPeaks("joinStep(#, 0, 0)");
        refusedPeaks("joinStep(#, 1, 0)");

        Edge.of(30, "side: 0 for the left side, 1 for the right side",
            "BAD_ARGUMENT if the peak or the side does not exist");
        Edge.range(Edge.RICH, "joinStep(0, #, 0) = BAD_ARGUMENT", 0, 1);
        Edge.range(Edge.RICH, "joinStep(4, #, 0) = BAD_ARGUMENT", 0, 1);

        Edge.of(30, "i: the position in the path, from 0",
            "NONE if the peak is not decreasing or the path has no such position");
        Edge.run(LONGEST_PATH + "joinStep(0, 0, 0) = 2; joinStep(0, 0, 13) = 15; joinStep(0, 0, 14) = 1"
            + "; joinStep(0, 0, 15) = NONE");
        Edge.range(LONGEST_PATH, "joinStep(0, 0, #) = NONE", 0, 14);
        Edge.range(Edge.RICH, "joinStep(0, 0, #) = NONE", 0, 0);
        Edge.range(Edge.RICH, "joinStep(0, 1, #) = NONE", 0, 0);
        Edge.leave(Edge.RICH, "joinStep(3, 0, 0) = NONE; joinStep(3, 0, -1) = NONE; joinStep(3, 0, 1) = NONE");
        Edge.leave(Edge.RICH, "joinStep(1, 0, 0) = NONE; joinStep(1, 1, 0) = NONE; joinStep(2, 0, -1) = NONE"
            + "; joinStep(2, 1, 9) = NONE");

        Edge.of(0, "When several errors apply, the one that is listed first is reported");
        Edge.leave(Edge.RICH, """
            joinStep(1, 2, 0) = BAD_ARGUMENT; joinStep(1, -1, -1) = BAD_ARGUMENT; joinStep(0, 2, 1) = BAD_ARGUMENT
            joinStep(0, -1, -1) = BAD_ARGUMENT; joinStep(4, 0, -1) = BAD_ARGUMENT; joinStep(-1, 1, 99) = BAD_ARGUMENT
            """);
    }

    private static void counts() {
        Edge.of(31, "Returns the number of decreasing peaks", "Returns the number of local peaks that are decreasing");
        Edge.run("decreasingCount() = 0; addObject() = 0; decreasingCount() = 0");
        Edge.run(MOST_PEAKS + "decreasingCount() = 496");
        Edge.run(Edge.objects(0, 3) + "addStep(0, 1, 0) = 0; addStep(0, 2, 0) = 1; peakCount() = 1; decreasingCount() = 0");
        Edge.leave(Edge.RICH, "decreasingCount() = 2");

        Edge.of(32, "Returns the first local peak that is not decreasing", "Returns the local peak");
        Edge.leave(Edge.RICH, "firstFailure() = 1");
        Edge.run(Edge.objects(0, 3) + "addStep(0, 1, 0) = 0; addStep(0, 2, 0) = 1; firstFailure() = 0");
        Edge.run(Edge.objects(0, 3) + "addStep(1, 1, 0) = 0; addStep(1, 1, 0) = 1; addStep(0, 1, 0) = 2"
            + "; addStep(0, 2, 0) = 3; firstFailure() = 1");
        Edge.run(Edge.objects(0, 3) + Edge.loops(0, 30).replace("addStep(0, 0", "addStep(2, 2") + """
            addStep(0, 1, 0) = 30; addStep(0, 2, 0) = 31; peakCount() = 436; decreasingCount() = 435; firstFailure() = 435
            """);

        Edge.of(32, "NONE if the system is locally decreasing");
        Edge.run("firstFailure() = NONE; addObject() = 0; firstFailure() = NONE; addStep(0, 0, 0) = 0"
            + "; firstFailure() = NONE");
        Edge.run(MOST_PEAKS + "firstFailure() = NONE");
        Edge.leave("addObject() = 0\n" + Edge.loops(0, 3), "firstFailure() = NONE");
    }

    private static void draw() {
        Edge.of(33, "Writes a local peak and its joining paths as text into the output, which replaces the previous output");
        Edge.change("OUTPUT", Edge.RICH, "draw(1) = 10; text() = 1<0-0-6>4!");
        Edge.run(LONGEST_PATH + "draw(0) = 48; setLabel(0, 2) = 1; draw(0) = 11; text() = 1<0-0-1>15!; output(11) = NONE");
        Edge.run("addObject() = 0\n" + Edge.loops(0, 2) + "draw(0) = 11; draw(0) = 11; text() = 0<0-0-1>0:,");

        Edge.of(33, "The text of a peak is: ...", "All numbers are decimal");
        Edge.run(MOST_PEAKS + "draw(0) = 11; text() = 0<0-0-1>0:,; draw(495) = 13; text() = 0<30-0-31>0:,");
        Edge.run(Edge.objects(0, 16) + "addStep(15, 9, 0) = 0; addStep(15, 10, 0) = 1; draw(0) = 12; text() = 9<0-15-1>10!");
        for (int second = 1; second < 32; second++) {
            String text = "0<0-0-" + second + ">0:,";
            Edge.run(MOST_PEAKS + "draw(" + (second - 1) + ") = " + text.length() + "; text() = " + text);
        }
        for (int object = 0; object < 16; object++) {
            String text = object + "<0-" + object + "-1>" + object + ":,";
            String loop = "addStep(%d, %d, 0) = ".formatted(object, object);
            Edge.run(Edge.objects(0, 16) + loop + "0; " + loop + "1; draw(0) = " + text.length() + "; text() = " + text);
        }

        Edge.of(33, "If the peak is decreasing, a colon follows and then the left joining path, a comma and the right "
            + "joining path; a path...");
        Edge.run(LONGEST_PATH + "draw(0) = 48; text() = 1<0-0-1>15:.2.3.4.5.6.7.8.9.10.11.12.13.14.15.1,");
        Edge.run(Edge.RICH + "draw(0) = 15; text() = 1<0-0-1>2:.2,.3; draw(3) = 13; text() = 0<4-4-5>4:,.4");

        Edge.of(33, "Otherwise an exclamation mark follows");
        Edge.run(Edge.RICH + "draw(1) = 10; text() = 1<0-0-6>4!; draw(2) = 10; text() = 2<1-0-6>4!");

        Edge.of(33, "peak: the local peak", "BAD_ARGUMENT");
        refusedPeaks("draw(#)");

        Edge.of(33, "Returns the length of the output");
        Edge.run(Edge.RICH + "draw(0) = 15; output(14) = 51; output(15) = NONE; draw(3) = 13; output(12) = 52"
            + "; output(13) = NONE");
    }

    private static void output() {
        Edge.of(34, "Returns a character of the output", "Returns the character code");
        Edge.leave(Edge.RICH, """
            output(0) = 49; output(1) = 60; output(2) = 48; output(3) = 45; output(4) = 48; output(5) = 45; output(6) = 49
            output(7) = 62; output(8) = 50; output(9) = 58; output(10) = 46; output(11) = 50; output(12) = 44
            output(13) = 46; output(14) = 51; output(15) = NONE
            """);
        Edge.run(Edge.RICH + "draw(1) = 10; output(9) = 33");

        Edge.of(34, "The output is empty at first");
        Edge.leave("", "output(0) = NONE");
        Edge.run("addObject() = 0; output(0) = NONE; draw(0) = BAD_ARGUMENT; output(0) = NONE");

        Edge.of(34, "i: the position, from 0", "NONE if there is no such position");
        Edge.range(Edge.RICH, "output(#) = NONE", 0, 14);
        Edge.range("", "output(#) = NONE", 0, -1);
        Edge.run(LONGEST_PATH + "draw(0) = 48; output(0) = 49; output(47) = 44; output(48) = NONE; output(-1) = NONE");
    }
}
