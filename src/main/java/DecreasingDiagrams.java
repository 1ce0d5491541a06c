import java.util.Arrays;

/**
 * Confluence of finite labelled rewriting systems by decreasing diagrams, with string rewriting as a source of systems.
 *
 * Sets of objects and sets of labels are ints with one bit for each member. Every row is made with the object of
 * this class, so that no later call makes anything new.
 */
public final class DecreasingDiagrams {
    public static final int BAD_ARGUMENT = -1;
    public static final int NONE = -2;
    public static final int FULL = -3;
    public static final int CYCLE = -4;
    public static final int TOO_LARGE = -5;
    public static final int EXPLORATION_FAILED = -6;
    public static final int AMBIGUOUS = -7;
    public static final int NULL_ARRAY = -11;
    public static final int INDEX_OUT_OF_RANGE = -13;
    public static final int NEGATIVE_SIZE = -14;
    public static final int SYNTAX_ERROR = -100;

    private static final int MAX_OBJECTS = 16;
    private static final int MAX_STEPS = 32;
    private static final int LABELS = 8;
    private static final int ALL_LABELS = (1 << LABELS) - 1;
    private static final int MAX_PEAKS = MAX_STEPS * (MAX_STEPS - 1) / 2;
    private static final int MAX_SEARCH_LABELS = 3;
    private static final int MAX_SEARCH_STEPS = 8;
    private static final int MAX_RULES = 6;
    private static final int MAX_SIDE_LETTERS = 4;
    private static final int MAX_WORD_LETTERS = 8;
    private static final int MAX_INPUT = 20;
    private static final int MAX_BYTE = 127;
    private static final int ARRAYS = 3;
    private static final int MAX_ARRAY_SIZE = 16;

    private final LabelOrder order = new LabelOrder();
    private final LabelledSystem system = new LabelledSystem();
    private final RuleSet rules = new RuleSet();
    private final LabelOrder savedOrder = new LabelOrder();
    private final LabelledSystem savedSystem = new LabelledSystem();
    private final RuleSet savedRules = new RuleSet();
    private boolean snapshotSaved = false;
    private final Peaks peaks = new Peaks();
    private final SidePaths leftPaths = new SidePaths();
    private final SidePaths rightPaths = new SidePaths();
    private final OutputText text = new OutputText();
    private final LabellingSearch labellings = new LabellingSearch();
    private final InputLine input = new InputLine();
    private final Explorer explorer = new Explorer();
    private final LongArrays arrays = new LongArrays();
    private final int[] reach = new int[MAX_OBJECTS];

    public DecreasingDiagrams() {
    }

    // ---- label order

    public int addGreater(int greater, int less) {
        if (!isLabel(greater) || !isLabel(less)) {
            return BAD_ARGUMENT;
        }
        if (greater == less || order.isAbove(less, greater)) {
            return CYCLE;
        }
        if (order.hasPair(greater, less)) {
            return 0;
        }
        order.put(greater, less);
        return 1;
    }

    public int removeGreater(int greater, int less) {
        if (!isLabel(greater) || !isLabel(less)) {
            return BAD_ARGUMENT;
        }
        if (!order.hasPair(greater, less)) {
            return 0;
        }
        order.drop(greater, less);
        return 1;
    }

    public int isGreater(int greater, int less) {
        if (!isLabel(greater) || !isLabel(less)) {
            return BAD_ARGUMENT;
        }
        return order.isAbove(greater, less) ? 1 : 0;
    }

    public int useNaturalOrder() {
        int removed = order.size();
        order.makeNatural();
        return removed;
    }

    // ---- the system

    public int addObject() {
        return system.appendObject(NONE);
    }

    public int addStep(int source, int target, int label) {
        if (!system.hasObject(source) || !system.hasObject(target) || !isLabel(label)) {
            return BAD_ARGUMENT;
        }
        return system.appendStep(source, target, label);
    }

    public int removeStep(int step) {
        if (!system.hasStep(step)) {
            return BAD_ARGUMENT;
        }
        system.dropStep(step);
        return system.steps;
    }

    public int setLabel(int step, int label) {
        if (!system.hasStep(step) || !isLabel(label)) {
            return BAD_ARGUMENT;
        }
        int previous = system.labels[step];
        system.labels[step] = label;
        return previous;
    }

    public int clearSystem() {
        int removed = system.objects;
        system.clear();
        return removed;
    }

    public int objectCount() {
        return system.objects;
    }

    public int stepCount() {
        return system.steps;
    }

    public int source(int step) {
        return system.hasStep(step) ? system.sources[step] : BAD_ARGUMENT;
    }

    public int target(int step) {
        return system.hasStep(step) ? system.targets[step] : BAD_ARGUMENT;
    }

    public int label(int step) {
        return system.hasStep(step) ? system.labels[step] : BAD_ARGUMENT;
    }

    // ---- reduction

    public int distance(int from, int to) {
        if (!system.hasObject(from) || !system.hasObject(to)) {
            return BAD_ARGUMENT;
        }
        int ends = 1 << from;
        for (int length = 0; length < system.objects; length++) {
            if (isIn(ends, to)) {
                return length;
            }
            ends = system.successors(ends, ALL_LABELS);
        }
        return NONE;
    }

    public int reachable(int object) {
        return system.hasObject(object) ? system.closure(1 << object, ALL_LABELS) : BAD_ARGUMENT;
    }

    public int normalForm(int object) {
        if (!system.hasObject(object)) {
            return BAD_ARGUMENT;
        }
        int forms = system.closure(1 << object, ALL_LABELS) & system.normalForms();
        if (forms == 0) {
            return NONE;
        }
        return Integer.bitCount(forms) > 1 ? AMBIGUOUS : lowestMember(forms);
    }

    public int component(int object) {
        return system.hasObject(object) ? lowestMember(system.convertible(object)) : BAD_ARGUMENT;
    }

    public int isTerminating() {
        int all = (1 << system.objects) - 1;
        return system.longestFrom(all) == NONE ? 0 : 1;
    }

    public int longestPath(int object) {
        return system.hasObject(object) ? system.longestFrom(1 << object) : BAD_ARGUMENT;
    }

    public int isConfluent() {
        return firstCounterexample() == NONE ? 1 : 0;
    }

    public int counterexample() {
        return firstCounterexample();
    }

    public int isLocallyConfluent() {
        system.fillReach(reach);
        peaks.collect(system);
        for (int peak = 0; peak < peaks.count; peak++) {
            int left = system.targets[peaks.firsts[peak]];
            int right = system.targets[peaks.seconds[peak]];
            if ((reach[left] & reach[right]) == 0) {
                return 0;
            }
        }
        return 1;
    }

    // ---- local peaks

    public int peakCount() {
        peaks.collect(system);
        return peaks.count;
    }

    public int peakStep(int peak, int side) {
        peaks.collect(system);
        if (!peaks.has(peak) || !isSide(side)) {
            return BAD_ARGUMENT;
        }
        return side == 0 ? peaks.firsts[peak] : peaks.seconds[peak];
    }

    public int isDecreasing(int peak) {
        peaks.collect(system);
        if (!peaks.has(peak)) {
            return BAD_ARGUMENT;
        }
        return peaks.decreases(peak, system, order) ? 1 : 0;
    }

    public int valley(int peak) {
        return findValley(peak);
    }

    public int joinLength(int peak, int side) {
        if (!isSide(side)) {
            return BAD_ARGUMENT;
        }
        int bottom = findValley(peak);
        return bottom < 0 ? bottom : pathsOf(side).lengthTo(bottom);
    }

    public int joinStep(int peak, int side, int i) {
        if (!isSide(side)) {
            return BAD_ARGUMENT;
        }
        int bottom = findValley(peak);
        return bottom < 0 ? bottom : pathsOf(side).stepTo(bottom, i);
    }

    public int decreasingCount() {
        peaks.collect(system);
        int count = 0;
        for (int peak = 0; peak < peaks.count; peak++) {
            if (peaks.decreases(peak, system, order)) {
                count++;
            }
        }
        return count;
    }

    public int firstFailure() {
        peaks.collect(system);
        return peaks.firstFailing(system, order);
    }

    public int draw(int peak) {
        int bottom = findValley(peak);
        if (bottom == BAD_ARGUMENT) {
            return BAD_ARGUMENT;
        }
        text.clear();
        writePeak(peaks.firsts[peak], peaks.seconds[peak]);
        if (bottom == NONE) {
            text.putSign('!');
        } else {
            text.putSign(':');
            writePath(leftPaths, bottom);
            text.putSign(',');
            writePath(rightPaths, bottom);
        }
        return text.length;
    }

    public int output(int i) {
        return i >= 0 && i < text.length ? text.signs[i] : NONE;
    }

    // ---- labellings

    public int findLabelling(int k) {
        int error = searchError(k);
        if (error != 0) {
            return error;
        }
        return labellings.findFirst(system, k) ? 1 : 0;
    }

    public int labellingCount(int k) {
        int error = searchError(k);
        return error != 0 ? error : labellings.countAll(system, k);
    }

    public int foundLabel(int step) {
        return step >= 0 && step < labellings.foundSteps ? labellings.found[step] : NONE;
    }

    public int applyLabelling() {
        if (labellings.foundSteps != system.steps) {
            return NONE;
        }
        int changed = 0;
        for (int step = 0; step < labellings.foundSteps; step++) {
            if (system.labels[step] != labellings.found[step]) {
                system.labels[step] = labellings.found[step];
                changed++;
            }
        }
        order.makeNatural();
        return changed;
    }

    // ---- string rewriting

    public int feed(int b) {
        if (b < 1 || b > MAX_BYTE) {
            return BAD_ARGUMENT;
        }
        if (input.length >= MAX_INPUT) {
            return FULL;
        }
        input.append(b);
        return input.length;
    }

    public int addRule() {
        if (rules.count >= MAX_RULES) {
            return FULL;
        }
        int left = input.wordAt(0, MAX_SIDE_LETTERS);
        int sign = Word.lengthOf(left);
        int right = input.wordAt(sign + 1, MAX_SIDE_LETTERS);
        int end = sign + 1 + Word.lengthOf(right);
        boolean leftIsWhole = sign > 0 && input.byteAt(sign) == '>';
        boolean rightIsWhole = end == input.length;
        input.clear();
        if (!leftIsWhole) {
            return SYNTAX_ERROR - sign;
        }
        return rightIsWhole ? rules.append(left, right) : SYNTAX_ERROR - end;
    }

    public int clearRules() {
        int removed = rules.count;
        rules.count = 0;
        return removed;
    }

    public int explore() {
        int start = input.wordAt(0, MAX_WORD_LETTERS);
        int end = Word.lengthOf(start);
        boolean startIsWhole = end > 0 && end == input.length;
        input.clear();
        if (!startIsWhole) {
            return SYNTAX_ERROR - end;
        }
        if (!explorer.run(start, rules)) {
            return EXPLORATION_FAILED;
        }
        system.copyFrom(explorer.draft);
        return system.objects;
    }

    public int failure(int depth) {
        switch (depth) {
            case 0:
                return explorer.failedObject;
            case 1:
                return explorer.failedRule;
            case 2:
                return explorer.failedLimit;
            default:
                return NONE;
        }
    }

    public int wordLength(int object) {
        if (!system.hasObject(object)) {
            return BAD_ARGUMENT;
        }
        int word = system.words[object];
        return word == NONE ? NONE : Word.lengthOf(word);
    }

    public int letter(int object, int i) {
        if (!system.hasObject(object)) {
            return BAD_ARGUMENT;
        }
        int word = system.words[object];
        if (word == NONE || i < 0 || i >= Word.lengthOf(word)) {
            return NONE;
        }
        return Word.letterOf(word, i);
    }

    // ---- arrays, snapshot

    public int newArray(int array, int size) {
        if (!isArray(array) || size > MAX_ARRAY_SIZE) {
            return BAD_ARGUMENT;
        }
        if (size < 0) {
            return NEGATIVE_SIZE;
        }
        arrays.renew(array, size);
        return 1;
    }

    public int setElement(int array, int i, long value) {
        if (!isArray(array)) {
            return BAD_ARGUMENT;
        }
        if (arrays.isMissing(array)) {
            return NULL_ARRAY;
        }
        if (!arrays.hasElement(array, i)) {
            return INDEX_OUT_OF_RANGE;
        }
        arrays.values[array][i] = value;
        return 1;
    }

    public long element(int array, int i) {
        if (!isArray(array) || !arrays.hasElement(array, i)) {
            return Long.MIN_VALUE;
        }
        return arrays.values[array][i];
    }

    public int saveReachable(int array) {
        if (!isArray(array)) {
            return BAD_ARGUMENT;
        }
        system.fillReach(reach);
        arrays.renew(array, system.objects);
        for (int object = 0; object < system.objects; object++) {
            arrays.values[array][object] = reach[object];
        }
        return system.objects;
    }

    public int compareReachable(int array) {
        if (!isArray(array)) {
            return BAD_ARGUMENT;
        }
        if (arrays.isMissing(array)) {
            return NULL_ARRAY;
        }
        system.fillReach(reach);
        int size = arrays.sizes[array];
        int common = Math.min(size, system.objects);
        for (int object = 0; object < common; object++) {
            if (arrays.values[array][object] != reach[object]) {
                return object;
            }
        }
        return size == system.objects ? NONE : common;
    }

    public int saveSnapshot() {
        savedSystem.copyFrom(system);
        savedOrder.copyFrom(order);
        savedRules.copyFrom(rules);
        snapshotSaved = true;
        return system.objects;
    }

    public int restoreSnapshot() {
        if (!snapshotSaved) {
            return NONE;
        }
        system.copyFrom(savedSystem);
        order.copyFrom(savedOrder);
        rules.copyFrom(savedRules);
        return system.objects;
    }

    // ---- what the methods share

    private static boolean isLabel(int label) {
        return label >= 0 && label < LABELS;
    }

    private static boolean isSide(int side) {
        return side == 0 || side == 1;
    }

    private static boolean isArray(int array) {
        return array >= 0 && array < ARRAYS;
    }

    private static boolean isIn(int set, int member) {
        return (set >> member & 1) != 0;
    }

    private static int lowestMember(int set) {
        return Integer.bitCount((set & -set) - 1);
    }

    private int firstCounterexample() {
        system.fillReach(reach);
        for (int a = 0; a < system.objects; a++) {
            int pair = unjoinablePair(reach[a]);
            if (pair != NONE) {
                return 256 * a + pair;
            }
        }
        return NONE;
    }

    /** The first two objects b and c of a set that are not joinable, as 16 * b + c; reads the reach rows. */
    private int unjoinablePair(int set) {
        for (int b = 0; b < system.objects; b++) {
            for (int c = b + 1; c < system.objects; c++) {
                if (isIn(set, b) && isIn(set, c) && (reach[b] & reach[c]) == 0) {
                    return 16 * b + c;
                }
            }
        }
        return NONE;
    }

    /** The valley, BAD_ARGUMENT or NONE; afterwards the peaks and the paths of both sides are those of this peak. */
    private int findValley(int peak) {
        peaks.collect(system);
        if (!peaks.has(peak)) {
            return BAD_ARGUMENT;
        }
        leftPaths.search(system, order, peaks.firsts[peak], peaks.seconds[peak]);
        rightPaths.search(system, order, peaks.seconds[peak], peaks.firsts[peak]);
        int bottom = NONE;
        int least = Integer.MAX_VALUE;
        for (int object = 0; object < system.objects; object++) {
            if (leftPaths.reaches(object) && rightPaths.reaches(object)) {
                int sum = leftPaths.lengthTo(object) + rightPaths.lengthTo(object);
                if (sum < least) {
                    least = sum;
                    bottom = object;
                }
            }
        }
        return bottom;
    }

    private SidePaths pathsOf(int side) {
        return side == 0 ? leftPaths : rightPaths;
    }

    private void writePeak(int first, int second) {
        text.putNumber(system.targets[first]);
        text.putSign('<');
        text.putNumber(first);
        text.putSign('-');
        text.putNumber(system.sources[first]);
        text.putSign('-');
        text.putNumber(second);
        text.putSign('>');
        text.putNumber(system.targets[second]);
    }

    private void writePath(SidePaths paths, int end) {
        int length = paths.lengthTo(end);
        for (int i = 0; i < length; i++) {
            text.putSign('.');
            text.putNumber(paths.stepTo(end, i));
        }
    }

    /** The error of a search of labellings, or 0. */
    private int searchError(int k) {
        if (k < 1 || k > MAX_SEARCH_LABELS) {
            return BAD_ARGUMENT;
        }
        return system.steps > MAX_SEARCH_STEPS ? TOO_LARGE : 0;
    }

    /** The pairs of the label order and their transitive closure. */
    private static final class LabelOrder {
        private final int[] pairs = new int[LABELS];
        /** For each label the set of the labels below it. */
        private final int[] below = new int[LABELS];

        private boolean hasPair(int greater, int less) {
            return isIn(pairs[greater], less);
        }

        private boolean isAbove(int greater, int less) {
            return isIn(below[greater], less);
        }

        private void put(int greater, int less) {
            pairs[greater] |= 1 << less;
            close();
        }

        private void drop(int greater, int less) {
            pairs[greater] &= ~(1 << less);
            close();
        }

        private int size() {
            int size = 0;
            for (int label = 0; label < LABELS; label++) {
                size += Integer.bitCount(pairs[label]);
            }
            return size;
        }

        private void makeNatural() {
            for (int label = 0; label < LABELS; label++) {
                pairs[label] = (1 << label) - 1;
                below[label] = pairs[label];
            }
        }

        private void copyFrom(LabelOrder other) {
            System.arraycopy(other.pairs, 0, pairs, 0, LABELS);
            System.arraycopy(other.below, 0, below, 0, LABELS);
        }

        private void close() {
            System.arraycopy(pairs, 0, below, 0, LABELS);
            for (int middle = 0; middle < LABELS; middle++) {
                for (int label = 0; label < LABELS; label++) {
                    if (isIn(below[label], middle)) {
                        below[label] |= below[middle];
                    }
                }
            }
        }
    }

    /** Objects with their words, and steps. */
    private static final class LabelledSystem {
        private int objects = 0;
        /** The word of each object, or NONE. */
        private final int[] words = new int[MAX_OBJECTS];
        private int steps = 0;
        private final int[] sources = new int[MAX_STEPS];
        private final int[] targets = new int[MAX_STEPS];
        private final int[] labels = new int[MAX_STEPS];

        private boolean hasObject(int object) {
            return object >= 0 && object < objects;
        }

        private boolean hasStep(int step) {
            return step >= 0 && step < steps;
        }

        private void clear() {
            objects = 0;
            steps = 0;
        }

        private void copyFrom(LabelledSystem other) {
            objects = other.objects;
            System.arraycopy(other.words, 0, words, 0, MAX_OBJECTS);
            steps = other.steps;
            System.arraycopy(other.sources, 0, sources, 0, MAX_STEPS);
            System.arraycopy(other.targets, 0, targets, 0, MAX_STEPS);
            System.arraycopy(other.labels, 0, labels, 0, MAX_STEPS);
        }

        /** The number of the new object, or FULL. */
        private int appendObject(int word) {
            if (objects >= MAX_OBJECTS) {
                return FULL;
            }
            words[objects] = word;
            objects++;
            return objects - 1;
        }

        /** The number of the new step, or FULL. */
        private int appendStep(int source, int target, int label) {
            if (steps >= MAX_STEPS) {
                return FULL;
            }
            sources[steps] = source;
            targets[steps] = target;
            labels[steps] = label;
            steps++;
            return steps - 1;
        }

        private void dropStep(int step) {
            steps--;
            for (int later = step; later < steps; later++) {
                sources[later] = sources[later + 1];
                targets[later] = targets[later + 1];
                labels[later] = labels[later + 1];
            }
        }

        private int objectOf(int word) {
            for (int object = 0; object < objects; object++) {
                if (words[object] == word) {
                    return object;
                }
            }
            return NONE;
        }

        private boolean isJoined(int source, int target, int label) {
            for (int step = 0; step < steps; step++) {
                if (sources[step] == source && targets[step] == target && labels[step] == label) {
                    return true;
                }
            }
            return false;
        }

        /** The targets of the steps that start in a set of objects and have one of the allowed labels. */
        private int successors(int set, int allowed) {
            int found = 0;
            for (int step = 0; step < steps; step++) {
                if ((set >> sources[step] & allowed >> labels[step] & 1) != 0) {
                    found |= 1 << targets[step];
                }
            }
            return found;
        }

        /** The ends of all paths that start in a set of objects and have allowed labels alone. */
        private int closure(int set, int allowed) {
            if (allowed == 0) {
                return set;
            }
            int all = set;
            for (int round = 0; round < objects; round++) {
                int more = all | successors(all, allowed);
                if (more == all) {
                    return all;
                }
                all = more;
            }
            return all;
        }

        private void fillReach(int[] rows) {
            for (int object = 0; object < objects && object < rows.length; object++) {
                rows[object] = closure(1 << object, ALL_LABELS);
            }
        }

        private int normalForms() {
            int forms = (1 << objects) - 1;
            for (int step = 0; step < steps; step++) {
                forms &= ~(1 << sources[step]);
            }
            return forms;
        }

        private int convertible(int object) {
            int all = 1 << object;
            for (int round = 0; round < objects; round++) {
                for (int step = 0; step < steps; step++) {
                    if (isIn(all, sources[step]) || isIn(all, targets[step])) {
                        all |= 1 << sources[step] | 1 << targets[step];
                    }
                }
            }
            return all;
        }

        /** The length of the longest path from a set of objects; NONE if one of the paths meets a cycle. */
        private int longestFrom(int set) {
            int ends = set;
            // A path of as many steps as there are objects meets one of them twice.
            for (int length = 0; length <= objects; length++) {
                ends = successors(ends, ALL_LABELS);
                if (ends == 0) {
                    return length;
                }
            }
            return NONE;
        }
    }

    /** The local peaks of a system in the order of their numbers. */
    private static final class Peaks {
        private int count = 0;
        private final int[] firsts = new int[MAX_PEAKS];
        private final int[] seconds = new int[MAX_PEAKS];

        private void collect(LabelledSystem system) {
            count = 0;
            for (int first = 0; first < system.steps; first++) {
                for (int second = first + 1; second < system.steps; second++) {
                    if (system.sources[first] == system.sources[second] && count < MAX_PEAKS) {
                        firsts[count] = first;
                        seconds[count] = second;
                        count++;
                    }
                }
            }
        }

        private boolean has(int peak) {
            return peak >= 0 && peak < count;
        }

        private boolean decreases(int peak, LabelledSystem system, LabelOrder order) {
            int first = firsts[peak];
            int second = seconds[peak];
            // Two empty paths will do; said first because a search of labellings asks this many thousand times.
            if (system.targets[first] == system.targets[second]) {
                return true;
            }
            int left = suitableEnds(system, order, first, second);
            int right = suitableEnds(system, order, second, first);
            return (left & right) != 0;
        }

        private int firstFailing(LabelledSystem system, LabelOrder order) {
            for (int peak = 0; peak < count; peak++) {
                if (!decreases(peak, system, order)) {
                    return peak;
                }
            }
            return NONE;
        }

        /** The ends of the suitable paths of the side that belongs to a step. */
        private static int suitableEnds(LabelledSystem system, LabelOrder order, int step, int otherStep) {
            int own = system.labels[step];
            int other = system.labels[otherStep];
            int ends = system.closure(1 << system.targets[step], order.below[own]);
            ends |= system.successors(ends, 1 << other);
            return system.closure(ends, order.below[own] | order.below[other]);
        }
    }

    /**
     * The suitable paths of one side of a local peak. A place is an object together with the part of the path in which
     * it is met. Places are met by length, then by the steps of their paths in lexicographic order, because earlier
     * places and lower steps go first: so the first place of an object has the path that the joining path asks for.
     */
    private static final class SidePaths {
        private static final int FIRST_PART = 0;
        private static final int LAST_PART = 1;
        private static final int NO_PART = -1;
        private static final int MAX_PLACES = 2 * MAX_OBJECTS;

        private int belowOwn = 0;
        private int belowEither = 0;
        private int other = 0;
        private int places = 0;
        private final int[] objects = new int[MAX_PLACES];
        private final int[] parts = new int[MAX_PLACES];
        private final int[] lengths = new int[MAX_PLACES];
        private final int[] previous = new int[MAX_PLACES];
        private final int[] arrivals = new int[MAX_PLACES];
        /** For each object its first place, or NONE. */
        private final int[] firstPlaces = new int[MAX_OBJECTS];

        private void search(LabelledSystem system, LabelOrder order, int step, int otherStep) {
            int own = system.labels[step];
            other = system.labels[otherStep];
            belowOwn = order.below[own];
            belowEither = belowOwn | order.below[other];
            Arrays.fill(firstPlaces, NONE);
            places = 0;
            meet(system.targets[step], FIRST_PART, NONE, NONE);
            for (int place = 0; place < MAX_PLACES && place < places; place++) {
                leave(system, place);
            }
        }

        private void leave(LabelledSystem system, int place) {
            for (int step = 0; step < system.steps; step++) {
                if (system.sources[step] == objects[place]) {
                    int part = partAfter(parts[place], system.labels[step]);
                    if (part != NO_PART) {
                        meet(system.targets[step], part, place, step);
                    }
                }
            }
        }

        /**
         * The part behind a step with this label. The first part is kept as long as can be: what can follow in a later
         * part can follow in the first one too.
         */
        private int partAfter(int part, int label) {
            if (part == FIRST_PART && isIn(belowOwn, label)) {
                return FIRST_PART;
            }
            if (isIn(belowEither, label) || part == FIRST_PART && label == other) {
                return LAST_PART;
            }
            return NO_PART;
        }

        private void meet(int object, int part, int from, int step) {
            if (places >= MAX_PLACES || isMet(object, part)) {
                return;
            }
            objects[places] = object;
            parts[places] = part;
            lengths[places] = from == NONE ? 0 : lengths[from] + 1;
            previous[places] = from;
            arrivals[places] = step;
            if (firstPlaces[object] == NONE) {
                firstPlaces[object] = places;
            }
            places++;
        }

        private boolean isMet(int object, int part) {
            for (int place = 0; place < places; place++) {
                if (objects[place] == object && parts[place] == part) {
                    return true;
                }
            }
            return false;
        }

        private boolean reaches(int object) {
            return firstPlaces[object] != NONE;
        }

        private int lengthTo(int object) {
            return reaches(object) ? lengths[firstPlaces[object]] : NONE;
        }

        private int stepTo(int object, int i) {
            int length = lengthTo(object);
            if (i < 0 || i >= length) {
                return NONE;
            }
            int place = firstPlaces[object];
            for (int after = length - 1; after > i; after--) {
                place = previous[place];
            }
            return arrivals[place];
        }
    }

    /** The text that was drawn last. */
    private static final class OutputText {
        /** A path has fewer steps than places, and a step takes three signs: 14 + 1 + 93 + 1 + 93 signs are enough. */
        private static final int MAX_SIGNS = 202;

        private int length = 0;
        private final char[] signs = new char[MAX_SIGNS];

        private void clear() {
            length = 0;
        }

        private void putSign(char sign) {
            if (length < MAX_SIGNS) {
                signs[length] = sign;
                length++;
            }
        }

        /** Writes a number from 0 to 99. */
        private void putNumber(int number) {
            if (number >= 10) {
                putSign((char) ('0' + number / 10));
            }
            putSign((char) ('0' + number % 10));
        }
    }

    /** Goes through the labellings of a system, and remembers the one that was found last. */
    private static final class LabellingSearch {
        private final LabelledSystem trial = new LabelledSystem();
        private final LabelOrder natural = new LabelOrder();
        private final Peaks trialPeaks = new Peaks();
        private final int[] found = new int[MAX_SEARCH_STEPS];
        /** The number of steps of the labelling found last, or NONE. */
        private int foundSteps = NONE;

        private LabellingSearch() {
            natural.makeNatural();
        }

        private boolean findFirst(LabelledSystem system, int k) {
            int all = begin(system, k);
            for (int labelling = 0; labelling < all; labelling++) {
                if (trialPeaks.firstFailing(trial, natural) == NONE) {
                    System.arraycopy(trial.labels, 0, found, 0, MAX_SEARCH_STEPS);
                    foundSteps = trial.steps;
                    return true;
                }
                advance(k);
            }
            return false;
        }

        private int countAll(LabelledSystem system, int k) {
            int all = begin(system, k);
            int count = 0;
            for (int labelling = 0; labelling < all; labelling++) {
                if (trialPeaks.firstFailing(trial, natural) == NONE) {
                    count++;
                }
                advance(k);
            }
            return count;
        }

        /** Lays out the first labelling, and tells how many there are. */
        private int begin(LabelledSystem system, int k) {
            trial.copyFrom(system);
            trialPeaks.collect(trial);
            int all = 1;
            for (int step = 0; step < trial.steps && step < MAX_SEARCH_STEPS; step++) {
                trial.labels[step] = 0;
                all *= k;
            }
            return all;
        }

        /** Goes on to the next labelling; behind the last one it begins anew. */
        private void advance(int k) {
            for (int step = trial.steps - 1; step >= 0; step--) {
                if (trial.labels[step] + 1 < k) {
                    trial.labels[step]++;
                    return;
                }
                trial.labels[step] = 0;
            }
        }
    }

    /**
     * Words as ints: two bits a letter, 1 to 3 for a to c, the first letter lowest; so the empty word is 0, equal words
     * are equal ints, and a word of the 11 letters that a rule can make has room.
     */
    private static final class Word {
        private static final int MAX_LETTERS = 15;

        private static int lengthOf(int word) {
            int length = 0;
            while (length < MAX_LETTERS && word >> 2 * length != 0) {
                length++;
            }
            return length;
        }

        private static int letterOf(int word, int i) {
            return 'a' - 1 + (word >> 2 * i & 3);
        }

        private static int append(int word, int length, int letter) {
            return word | (letter - 'a' + 1) << 2 * length;
        }

        private static int headOf(int word, int length) {
            return word & (1 << 2 * length) - 1;
        }

        private static boolean occurs(int part, int word, int at) {
            return headOf(word >> 2 * at, lengthOf(part)) == part;
        }

        private static int replace(int word, int at, int left, int right) {
            int tail = word >> 2 * (at + lengthOf(left));
            return headOf(word, at) | right << 2 * at | tail << 2 * (at + lengthOf(right));
        }
    }

    /** The bytes that were fed. */
    private static final class InputLine {
        private int length = 0;
        private final int[] bytes = new int[MAX_INPUT];

        private void clear() {
            length = 0;
        }

        private void append(int b) {
            if (length < MAX_INPUT) {
                bytes[length] = b;
                length++;
            }
        }

        /** The byte at a position, or 0, which no byte is, where there is none. */
        private int byteAt(int i) {
            return i >= 0 && i < length ? bytes[i] : 0;
        }

        /** The word of the letters that follow one another from a position on, at most so many. */
        private int wordAt(int from, int most) {
            int word = 0;
            for (int i = 0; i < most; i++) {
                int b = byteAt(from + i);
                if (b < 'a' || b > 'c') {
                    return word;
                }
                word = Word.append(word, i, b);
            }
            return word;
        }
    }

    /** The rules of string rewriting. */
    private static final class RuleSet {
        private int count = 0;
        private final int[] lefts = new int[MAX_RULES];
        private final int[] rights = new int[MAX_RULES];

        /** The number of the new rule, or FULL. */
        private int append(int left, int right) {
            if (count >= MAX_RULES) {
                return FULL;
            }
            lefts[count] = left;
            rights[count] = right;
            count++;
            return count - 1;
        }

        private void copyFrom(RuleSet other) {
            count = other.count;
            System.arraycopy(other.lefts, 0, lefts, 0, MAX_RULES);
            System.arraycopy(other.rights, 0, rights, 0, MAX_RULES);
        }
    }

    /** Explores start words in a system of its own, so that a failure leaves the other one as it was. */
    private static final class Explorer {
        private static final int WORD_LIMIT = 0;
        private static final int OBJECT_LIMIT = 1;
        private static final int STEP_LIMIT = 2;

        private final LabelledSystem draft = new LabelledSystem();
        private int failedObject = NONE;
        private int failedRule = NONE;
        private int failedLimit = NONE;

        private boolean run(int start, RuleSet rules) {
            draft.clear();
            draft.appendObject(start);
            for (int object = 0; object < MAX_OBJECTS && object < draft.objects; object++) {
                for (int rule = 0; rule < rules.count; rule++) {
                    int limit = applyEverywhere(object, rule, rules.lefts[rule], rules.rights[rule]);
                    if (limit != NONE) {
                        failedObject = object;
                        failedRule = rule;
                        failedLimit = limit;
                        return false;
                    }
                }
            }
            return true;
        }

        /** Applies a rule at all positions of an object's word; the limit that is exceeded, or NONE. */
        private int applyEverywhere(int object, int rule, int left, int right) {
            int word = draft.words[object];
            int last = Word.lengthOf(word) - Word.lengthOf(left);
            for (int at = 0; at <= last; at++) {
                if (Word.occurs(left, word, at)) {
                    int limit = connect(object, Word.replace(word, at, left, right), rule);
                    if (limit != NONE) {
                        return limit;
                    }
                }
            }
            return NONE;
        }

        private int connect(int object, int result, int rule) {
            if (Word.lengthOf(result) > MAX_WORD_LETTERS) {
                return WORD_LIMIT;
            }
            int end = draft.objectOf(result);
            if (end == NONE) {
                end = draft.appendObject(result);
            }
            if (end == FULL) {
                return OBJECT_LIMIT;
            }
            if (draft.isJoined(object, end, rule)) {
                return NONE;
            }
            return draft.appendStep(object, end, rule) == FULL ? STEP_LIMIT : NONE;
        }
    }

    /** The three arrays of longs. */
    private static final class LongArrays {
        private static final int MISSING = -1;

        private final int[] sizes = new int[ARRAYS];
        private final long[][] values = new long[ARRAYS][MAX_ARRAY_SIZE];

        private LongArrays() {
            Arrays.fill(sizes, MISSING);
        }

        private boolean isMissing(int array) {
            return sizes[array] == MISSING;
        }

        private boolean hasElement(int array, int i) {
            return i >= 0 && i < sizes[array];
        }

        private void renew(int array, int size) {
            sizes[array] = size;
            Arrays.fill(values[array], 0L);
        }
    }
}
