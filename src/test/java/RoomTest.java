import java.lang.management.ManagementFactory;

/** All calls of a run live in one room: a new object is small, and its calls make nothing new. */
public final class RoomTest {
    private static final int CALLS = 200_000;

    public static void main(String[] args) {
        DecreasingDiagrams[] objects = new DecreasingDiagrams[100];
        long before = allocated();
        for (int i = 0; i < objects.length; i++) {
            objects[i] = new DecreasingDiagrams();
        }
        Script.due("an object takes under 40,000 bytes", (allocated() - before) / objects.length < 40_000, true);
        DecreasingDiagrams tested = objects[0];
        round(tested, 0);
        before = allocated();
        for (int i = 0; i < CALLS / 20; i++) {
            round(tested, i);
        }
        long bytes = allocated() - before;
        // The measuring itself, and the machine's compiler, may leave a few bytes here.
        Script.due("calls that make " + bytes + " bytes make something", bytes > CALLS / 20, false);
        Script.finish();
    }

    private static long allocated() {
        var threads = (com.sun.management.ThreadMXBean) ManagementFactory.getThreadMXBean();
        return threads.getThreadAllocatedBytes(Thread.currentThread().getId());
    }

    private static void round(DecreasingDiagrams tested, int i) {
        tested.clearRules();
        type(tested, "a>b");
        tested.addRule();
        type(tested, "b>c");
        tested.addRule();
        type(tested, "aab");
        tested.explore();
        tested.addGreater(i % 8, i / 8 % 8);
        tested.draw(0);
        tested.joinStep(1, 0, 0);
        tested.decreasingCount();
        tested.counterexample();
        tested.longestPath(0);
        tested.newArray(0, i % 17);
        tested.saveReachable(1);
        tested.compareReachable(1);
        tested.saveSnapshot();
        tested.clearSystem();
        tested.addObject();
        tested.addStep(0, 0, 0);
        tested.addStep(0, 0, 1);
        tested.findLabelling(2);
        tested.labellingCount(3);
        tested.applyLabelling();
        tested.restoreSnapshot();
    }

    private static void type(DecreasingDiagrams tested, String signs) {
        for (int i = 0; i < signs.length(); i++) {
            tested.feed(signs.charAt(i));
        }
    }
}
