import java.util.ArrayList;
import java.util.Arrays;
import java.util.List;
import java.util.TreeMap;

/**
 * The document written a second time, by other means: words as texts, steps as a list, the order and the reduction as
 * tables, suitable paths with all their divisions. It is slow, and it shares no code with the class that it judges.
 */
public final class Oracle {
    private static final int BAD = -1;
    private static final int NONE = -2;
    private static final int FULL = -3;

    private record Step(int source, int target, int label) {
    }

    private record Rule(String left, String right) {
    }

    /** What a snapshot holds; words holds null for an object without a word. */
    private static final class World {
        List<String> words = new ArrayList<>();
        List<Step> steps = new ArrayList<>();
        boolean[][] pairs = new boolean[8][8];
        List<Rule> rules = new ArrayList<>();

        World copy() {
            World copy = new World();
            copy.words.addAll(words);
            copy.steps.addAll(steps);
            copy.rules.addAll(rules);
            for (int i = 0; i < 8; i++) {
                copy.pairs[i] = pairs[i].clone();
            }
            return copy;
        }
    }

    private World world = new World();
    private World saved = null;
    private String input = "";
    private String output = "";
    private List<Integer> found = null;
    private int[] failure = null;
    private final long[][] arrays = new long[3][];

    // ---- label order

    private static boolean label(int from, int to) {
        return 0 <= from && from <= 7 && 0 <= to && to <= 7;
    }

    private static boolean[][] closed(boolean[][] table) {
        int n = table.length;
        boolean[][] closed = new boolean[n][n];
        for (int i = 0; i < n; i++) {
            visit(table, i, closed[i]);
        }
        return closed;
    }

    private static void visit(boolean[][] table, int from, boolean[] seen) {
        for (int to = 0; to < table.length; to++) {
            if (table[from][to] && !seen[to]) {
                seen[to] = true;
                visit(table, to, seen);
            }
        }
    }

    public int addGreater(int greater, int less) {
        if (!label(greater, less)) {
            return BAD;
        }
        if (greater == less || closed(world.pairs)[less][greater]) {
            return -4;
        }
        boolean old = world.pairs[greater][less];
        world.pairs[greater][less] = true;
        return old ? 0 : 1;
    }

    public int removeGreater(int greater, int less) {
        if (!label(greater, less)) {
            return BAD;
        }
        boolean old = world.pairs[greater][less];
        world.pairs[greater][less] = false;
        return old ? 1 : 0;
    }

    public int isGreater(int greater, int less) {
        return !label(greater, less) ? BAD : closed(world.pairs)[greater][less] ? 1 : 0;
    }

    private static boolean[][] natural() {
        boolean[][] table = new boolean[8][8];
        for (int i = 0; i < 8; i++) {
            for (int j = 0; j < 8; j++) {
                table[i][j] = i > j;
            }
        }
        return table;
    }

    public int useNaturalOrder() {
        int removed = 0;
        for (boolean[] row : world.pairs) {
            for (boolean pair : row) {
                removed += pair ? 1 : 0;
            }
        }
        world.pairs = natural();
        return removed;
    }

    // ---- the system

    private boolean noObject(int object) {
        return object < 0 || object >= world.words.size();
    }

    private boolean noStep(int step) {
        return step < 0 || step >= world.steps.size();
    }

    public int addObject() {
        if (world.words.size() == 16) {
            return FULL;
        }
        world.words.add(null);
        return world.words.size() - 1;
    }

    public int addStep(int source, int target, int label) {
        if (noObject(source) || noObject(target) || label < 0 || label > 7) {
            return BAD;
        }
        if (world.steps.size() == 32) {
            return FULL;
        }
        world.steps.add(new Step(source, target, label));
        return world.steps.size() - 1;
    }

    public int removeStep(int step) {
        if (noStep(step)) {
            return BAD;
        }
        world.steps.remove(step);
        return world.steps.size();
    }

    public int setLabel(int step, int label) {
        if (noStep(step) || label < 0 || label > 7) {
            return BAD;
        }
        Step old = world.steps.get(step);
        world.steps.set(step, new Step(old.source, old.target, label));
        return old.label;
    }

    public int clearSystem() {
        int removed = world.words.size();
        world.words.clear();
        world.steps.clear();
        return removed;
    }

    public int objectCount() {
        return world.words.size();
    }

    public int stepCount() {
        return world.steps.size();
    }

    public int source(int step) {
        return noStep(step) ? BAD : world.steps.get(step).source;
    }

    public int target(int step) {
        return noStep(step) ? BAD : world.steps.get(step).target;
    }

    public int label(int step) {
        return noStep(step) ? BAD : world.steps.get(step).label;
    }

    // ---- reduction

    private static final int FAR = 1000;

    /** Lengths of shortest paths between all objects. */
    private int[][] distances() {
        int n = world.words.size();
        int[][] d = new int[n][n];
        for (int i = 0; i < n; i++) {
            Arrays.fill(d[i], FAR);
            d[i][i] = 0;
        }
        for (Step s : world.steps) {
            d[s.source][s.target] = Math.min(d[s.source][s.target], 1);
        }
        for (int m = 0; m < n; m++) {
            for (int i = 0; i < n; i++) {
                for (int j = 0; j < n; j++) {
                    d[i][j] = Math.min(d[i][j], d[i][m] + d[m][j]);
                }
            }
        }
        return d;
    }

    public int distance(int from, int to) {
        if (noObject(from) || noObject(to)) {
            return BAD;
        }
        int d = distances()[from][to];
        return d >= FAR ? NONE : d;
    }

    private long set(int object) {
        long set = 0;
        int[] row = distances()[object];
        for (int i = 0; i < row.length; i++) {
            set += row[i] < FAR ? 1L << i : 0;
        }
        return set;
    }

    public int reachable(int object) {
        return noObject(object) ? BAD : (int) set(object);
    }

    public int normalForm(int object) {
        if (noObject(object)) {
            return BAD;
        }
        List<Integer> forms = new ArrayList<>();
        for (int i = 0; i < world.words.size(); i++) {
            int candidate = i;
            boolean reducible = world.steps.stream().anyMatch(s -> s.source == candidate);
            if (!reducible && distances()[object][i] < FAR) {
                forms.add(i);
            }
        }
        return forms.isEmpty() ? NONE : forms.size() > 1 ? -7 : forms.get(0);
    }

    public int component(int object) {
        if (noObject(object)) {
            return BAD;
        }
        int n = world.words.size();
        boolean[][] joined = new boolean[n][n];
        for (Step s : world.steps) {
            joined[s.source][s.target] = true;
            joined[s.target][s.source] = true;
        }
        boolean[] seen = new boolean[n];
        seen[object] = true;
        visit(joined, object, seen);
        for (int i = 0; i < n; i++) {
            if (seen[i]) {
                return i;
            }
        }
        throw new IllegalStateException();
    }

    /** Whether an object is on a cycle. */
    private boolean returns(int object) {
        for (Step s : world.steps) {
            if (s.source == object && distances()[s.target][object] < FAR) {
                return true;
            }
        }
        return false;
    }

    public int isTerminating() {
        for (int i = 0; i < world.words.size(); i++) {
            if (returns(i)) {
                return 0;
            }
        }
        return 1;
    }

    public int longestPath(int object) {
        if (noObject(object)) {
            return BAD;
        }
        int[][] d = distances();
        for (int i = 0; i < world.words.size(); i++) {
            if (d[object][i] < FAR && returns(i)) {
                return NONE;
            }
        }
        return longest(object, new int[world.words.size()]);
    }

    private int longest(int object, int[] known) {
        if (known[object] == 0) {
            int most = 0;
            for (Step s : world.steps) {
                if (s.source == object) {
                    most = Math.max(most, 1 + longest(s.target, known));
                }
            }
            known[object] = most + 1;
        }
        return known[object] - 1;
    }

    private static boolean joinable(int[][] d, int b, int c) {
        for (int i = 0; i < d.length; i++) {
            if (d[b][i] < FAR && d[c][i] < FAR) {
                return true;
            }
        }
        return false;
    }

    public int isConfluent() {
        return counterexample() == NONE ? 1 : 0;
    }

    public int counterexample() {
        int[][] d = distances();
        for (int a = 0; a < d.length; a++) {
            for (int b = 0; b < d.length; b++) {
                for (int c = b + 1; c < d.length; c++) {
                    if (d[a][b] < FAR && d[a][c] < FAR && !joinable(d, b, c)) {
                        return 256 * a + 16 * b + c;
                    }
                }
            }
        }
        return NONE;
    }

    public int isLocallyConfluent() {
        int[][] d = distances();
        for (int[] peak : peaks(world.steps)) {
            if (!joinable(d, world.steps.get(peak[0]).target, world.steps.get(peak[1]).target)) {
                return 0;
            }
        }
        return 1;
    }

    // ---- local peaks

    private static List<int[]> peaks(List<Step> steps) {
        List<int[]> peaks = new ArrayList<>();
        for (int i = 0; i < steps.size(); i++) {
            for (int j = i + 1; j < steps.size(); j++) {
                if (steps.get(i).source == steps.get(j).source) {
                    peaks.add(new int[] {i, j});
                }
            }
        }
        return peaks;
    }

    private static boolean smaller(List<Integer> a, List<Integer> b) {
        if (a.size() != b.size()) {
            return a.size() < b.size();
        }
        for (int i = 0; i < a.size(); i++) {
            if (!a.get(i).equals(b.get(i))) {
                return a.get(i) < b.get(i);
            }
        }
        return false;
    }

    /**
     * For each object the shortest, then smallest, suitable path to it. The parts are 0, 1 and 2: in the first part,
     * behind the second part's step, and in the third part; every division is tried, in rounds until none is better.
     */
    private static TreeMap<Integer, List<Integer>> paths(List<Step> steps, boolean[][] greater, int side, int opposite) {
        int own = steps.get(side).label;
        int other = steps.get(opposite).label;
        TreeMap<Integer, List<Integer>> best = new TreeMap<>();
        best.put(3 * steps.get(side).target, List.of());
        boolean better = true;
        while (better) {
            better = false;
            for (int state : new ArrayList<>(best.keySet())) {
                for (int n = 0; n < steps.size(); n++) {
                    Step s = steps.get(n);
                    if (s.source != state / 3) {
                        continue;
                    }
                    List<Integer> path = new ArrayList<>(best.get(state));
                    path.add(n);
                    boolean low = greater[own][s.label];
                    boolean lowOrOther = low || greater[other][s.label];
                    if (state % 3 == 0 && low) {
                        better |= offer(best, 3 * s.target, path);
                    }
                    if (state % 3 == 0 && s.label == other) {
                        better |= offer(best, 3 * s.target + 1, path);
                    }
                    if (lowOrOther) {
                        better |= offer(best, 3 * s.target + 2, path);
                    }
                }
            }
        }
        TreeMap<Integer, List<Integer>> ends = new TreeMap<>();
        best.forEach((state, path) -> offer(ends, state / 3, path));
        return ends;
    }

    private static boolean offer(TreeMap<Integer, List<Integer>> best, int state, List<Integer> path) {
        List<Integer> old = best.get(state);
        if (old != null && !smaller(path, old)) {
            return false;
        }
        best.put(state, path);
        return true;
    }

    private record Diagram(int valley, List<Integer> left, List<Integer> right) {
    }

    /** The diagram of a peak, or null if it is not decreasing. */
    private static Diagram diagram(List<Step> steps, boolean[][] greater, int[] peak) {
        TreeMap<Integer, List<Integer>> left = paths(steps, greater, peak[0], peak[1]);
        TreeMap<Integer, List<Integer>> right = paths(steps, greater, peak[1], peak[0]);
        Diagram best = null;
        for (int object : left.keySet()) {
            if (right.containsKey(object)) {
                Diagram d = new Diagram(object, left.get(object), right.get(object));
                if (best == null || d.left.size() + d.right.size() < best.left.size() + best.right.size()) {
                    best = d;
                }
            }
        }
        return best;
    }

    private Diagram diagram(int peak) {
        return diagram(world.steps, closed(world.pairs), peaks(world.steps).get(peak));
    }

    private boolean noPeak(int peak) {
        return peak < 0 || peak >= peakCount();
    }

    public int peakCount() {
        return peaks(world.steps).size();
    }

    public int peakStep(int peak, int side) {
        return noPeak(peak) || side < 0 || side > 1 ? BAD : peaks(world.steps).get(peak)[side];
    }

    public int isDecreasing(int peak) {
        return noPeak(peak) ? BAD : diagram(peak) == null ? 0 : 1;
    }

    public int valley(int peak) {
        if (noPeak(peak)) {
            return BAD;
        }
        Diagram d = diagram(peak);
        return d == null ? NONE : d.valley;
    }

    public int joinLength(int peak, int side) {
        if (noPeak(peak) || side < 0 || side > 1) {
            return BAD;
        }
        Diagram d = diagram(peak);
        return d == null ? NONE : side == 0 ? d.left.size() : d.right.size();
    }

    public int joinStep(int peak, int side, int i) {
        int length = joinLength(peak, side);
        if (length < 0) {
            return length;
        }
        if (i < 0 || i >= length) {
            return NONE;
        }
        Diagram d = diagram(peak);
        return (side == 0 ? d.left : d.right).get(i);
    }

    public int decreasingCount() {
        int count = 0;
        for (int peak = 0; peak < peakCount(); peak++) {
            count += isDecreasing(peak);
        }
        return count;
    }

    public int firstFailure() {
        for (int peak = 0; peak < peakCount(); peak++) {
            if (isDecreasing(peak) == 0) {
                return peak;
            }
        }
        return NONE;
    }

    public int draw(int peak) {
        if (noPeak(peak)) {
            return BAD;
        }
        int[] sides = peaks(world.steps).get(peak);
        Step first = world.steps.get(sides[0]);
        Step second = world.steps.get(sides[1]);
        output = first.target + "<" + sides[0] + "-" + first.source + "-" + sides[1] + ">" + second.target;
        Diagram d = diagram(peak);
        if (d == null) {
            output += "!";
        } else {
            output += ":";
            for (int step : d.left) {
                output += "." + step;
            }
            output += ",";
            for (int step : d.right) {
                output += "." + step;
            }
        }
        return output.length();
    }

    public int output(int i) {
        return i < 0 || i >= output.length() ? NONE : output.charAt(i);
    }

    // ---- labellings

    private List<List<Integer>> decreasingLabellings(int k) {
        List<List<Integer>> labellings = new ArrayList<>();
        collect(k, new ArrayList<>(), labellings);
        return labellings;
    }

    private void collect(int k, List<Integer> labels, List<List<Integer>> labellings) {
        if (labels.size() < world.steps.size()) {
            for (int label = 0; label < k; label++) {
                labels.add(label);
                collect(k, labels, labellings);
                labels.remove(labels.size() - 1);
            }
            return;
        }
        List<Step> steps = new ArrayList<>();
        for (int i = 0; i < labels.size(); i++) {
            steps.add(new Step(world.steps.get(i).source, world.steps.get(i).target, labels.get(i)));
        }
        for (int[] peak : peaks(steps)) {
            if (diagram(steps, natural(), peak) == null) {
                return;
            }
        }
        labellings.add(new ArrayList<>(labels));
    }

    public int findLabelling(int k) {
        int count = labellingCount(k);
        if (count > 0) {
            found = decreasingLabellings(k).get(0);
        }
        return Math.min(count, 1);
    }

    public int labellingCount(int k) {
        return k < 1 || k > 3 ? BAD : world.steps.size() > 8 ? -5 : decreasingLabellings(k).size();
    }

    public int foundLabel(int step) {
        return found == null || step < 0 || step >= found.size() ? NONE : found.get(step);
    }

    public int applyLabelling() {
        if (found == null || found.size() != world.steps.size()) {
            return NONE;
        }
        int changed = 0;
        for (int step = 0; step < found.size(); step++) {
            changed += setLabel(step, found.get(step)) == found.get(step) ? 0 : 1;
        }
        useNaturalOrder();
        return changed;
    }

    // ---- string rewriting

    public int feed(int b) {
        if (b < 1 || b > 127) {
            return BAD;
        }
        if (input.length() == 20) {
            return FULL;
        }
        input += (char) b;
        return input.length();
    }

    /** The length of the longest start of a text that something of this pattern begins with. */
    private static int errorPosition(String text, String pattern) {
        for (int length = text.length(); length > 0; length--) {
            java.util.regex.Matcher matcher = java.util.regex.Pattern.compile(pattern).matcher(text.substring(0, length));
            if (matcher.matches() || matcher.hitEnd()) {
                return length;
            }
        }
        return 0;
    }

    public int addRule() {
        if (world.rules.size() == 6) {
            return FULL;
        }
        String text = input;
        input = "";
        if (!text.matches("[abc]{1,4}>[abc]{0,4}")) {
            return -100 - errorPosition(text, "[abc]{1,4}>[abc]{0,4}");
        }
        int sign = text.indexOf('>');
        world.rules.add(new Rule(text.substring(0, sign), text.substring(sign + 1)));
        return world.rules.size() - 1;
    }

    public int clearRules() {
        int removed = world.rules.size();
        world.rules.clear();
        return removed;
    }

    public int explore() {
        String text = input;
        input = "";
        if (!text.matches("[abc]{1,8}")) {
            return -100 - errorPosition(text, "[abc]{1,8}");
        }
        List<String> words = new ArrayList<>(List.of(text));
        List<Step> steps = new ArrayList<>();
        for (int object = 0; object < words.size(); object++) {
            for (int rule = 0; rule < world.rules.size(); rule++) {
                Rule r = world.rules.get(rule);
                String word = words.get(object);
                for (int at = word.indexOf(r.left); at >= 0; at = word.indexOf(r.left, at + 1)) {
                    String result = word.substring(0, at) + r.right + word.substring(at + r.left.length());
                    if (!words.contains(result)) {
                        words.add(result);
                    }
                    Step step = new Step(object, words.indexOf(result), rule);
                    if (!steps.contains(step)) {
                        steps.add(step);
                    }
                    int limit = result.length() > 8 ? 0 : words.size() > 16 ? 1 : steps.size() > 32 ? 2 : NONE;
                    if (limit != NONE) {
                        failure = new int[] {object, rule, limit};
                        return -6;
                    }
                }
            }
        }
        world.words = words;
        world.steps = steps;
        return words.size();
    }

    public int failure(int depth) {
        return failure == null || depth < 0 || depth > 2 ? NONE : failure[depth];
    }

    public int wordLength(int object) {
        return noObject(object) ? BAD : world.words.get(object) == null ? NONE : world.words.get(object).length();
    }

    public int letter(int object, int i) {
        int length = wordLength(object);
        return length == BAD ? BAD : i < 0 || i >= length ? NONE : world.words.get(object).charAt(i);
    }

    // ---- arrays, snapshot

    public int newArray(int array, int size) {
        if (array < 0 || array > 2 || size > 16) {
            return BAD;
        }
        if (size < 0) {
            return -14;
        }
        arrays[array] = new long[size];
        return 1;
    }

    public int setElement(int array, int i, long value) {
        if (array < 0 || array > 2) {
            return BAD;
        }
        if (arrays[array] == null) {
            return -11;
        }
        if (i < 0 || i >= arrays[array].length) {
            return -13;
        }
        arrays[array][i] = value;
        return 1;
    }

    public long element(int array, int i) {
        boolean there = array >= 0 && array <= 2 && arrays[array] != null && i >= 0 && i < arrays[array].length;
        return there ? arrays[array][i] : Long.MIN_VALUE;
    }

    private long[] sets() {
        long[] sets = new long[world.words.size()];
        for (int i = 0; i < sets.length; i++) {
            sets[i] = set(i);
        }
        return sets;
    }

    public int saveReachable(int array) {
        if (array < 0 || array > 2) {
            return BAD;
        }
        arrays[array] = sets();
        return world.words.size();
    }

    public int compareReachable(int array) {
        if (array < 0 || array > 2) {
            return BAD;
        }
        if (arrays[array] == null) {
            return -11;
        }
        int index = Arrays.mismatch(arrays[array], sets());
        return index < 0 ? NONE : index;
    }

    public int saveSnapshot() {
        saved = world.copy();
        return world.words.size();
    }

    public int restoreSnapshot() {
        if (saved == null) {
            return NONE;
        }
        world = saved.copy();
        return world.words.size();
    }
}
