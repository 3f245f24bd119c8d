import java.util.ArrayList;
import java.util.Arrays;
import java.util.Collections;
import java.util.List;
import java.util.TreeMap;

/**
 * The document once more, in the most roundabout and literal way: every firing of every shaft is
 * tried, every mass is tried, every slot is looked at. It shares no code with the program.
 */
final class PlainModel {
    static final int BAD_INDEX = -1000001;
    static final int BAD_VALUE = -1000002;
    static final int NOT_POSSIBLE = -1000003;
    static final int FULL = -1000004;
    static final int NONE = -1000005;

    private static final int[][] X = {{2, 0}, {0, 1}, {1, 0}, {0, 0}, {-1, 0}, {0, -1},
        {-2, 0}, {0, -1}, {-1, 0}, {0, 0}, {1, 0}, {0, 1}};

    /** What a slot keeps. */
    private static final class State {
        int n;
        int strokes = 4;
        int[][] cylinders;
        boolean[] on;
        int[] firing;
        TreeMap<Integer, Integer> weights = new TreeMap<>();

        State copy() {
            State copy = new State();
            copy.n = n;
            copy.strokes = strokes;
            copy.cylinders = new int[n][];
            for (int i = 0; i < n; i++) {
                copy.cylinders[i] = cylinders[i].clone();
            }
            copy.on = on.clone();
            copy.firing = firing == null ? null : firing.clone();
            copy.weights = new TreeMap<>(weights);
            return copy;
        }
    }

    private State state = new State();
    private final State[] slots = new State[2];
    private String text = "";

    PlainModel() {
        begin(4);
    }

    private void begin(int n) {
        state.n = n;
        state.cylinders = new int[n][];
        for (int i = 0; i < n; i++) {
            state.cylinders[i] = new int[] {0, 10, 10 * i};
        }
        unchoose();
    }

    private void unchoose() {
        state.firing = null;
        state.on = new boolean[state.n];
        Arrays.fill(state.on, true);
    }

    private int cycle() {
        return 6 * state.strokes;
    }

    private static boolean out(int value, int low, int high) {
        return !(low <= value && value <= high);
    }

    int setCylinders(int n) {
        int old = state.n;
        if (out(n, 1, 8)) {
            return BAD_VALUE;
        }
        begin(n);
        return old;
    }

    int setStrokes(int strokes) {
        int old = state.strokes;
        if (strokes != 2 && strokes != 4) {
            return BAD_VALUE;
        }
        state.strokes = strokes;
        unchoose();
        return old;
    }

    private int set(int cylinder, int what, int value, int low, int high) {
        if (out(cylinder, 0, state.n - 1)) {
            return BAD_INDEX;
        }
        if (out(value, low, high)) {
            return BAD_VALUE;
        }
        int old = state.cylinders[cylinder][what];
        state.cylinders[cylinder][what] = value;
        return old;
    }

    int setThrow(int cylinder, int turn) {
        int answer = set(cylinder, 0, turn, 0, 11);
        if (answer >= 0) {
            unchoose();
        }
        return answer;
    }

    int setMass(int cylinder, int mass) {
        return set(cylinder, 1, mass, 0, 99);
    }

    int setPlace(int cylinder, int place) {
        return set(cylinder, 2, place, -100, 100);
    }

    int setWeight(int place, int turn, int mass) {
        if (out(place, -100, 100) || out(turn, 0, 11) || out(mass, 0, 999)) {
            return BAD_VALUE;
        }
        int key = (place + 100) * 12 + turn;
        if (mass == 0) {
            state.weights.remove(key);
        } else if (state.weights.size() == 8 && !state.weights.containsKey(key)) {
            return FULL;
        } else {
            state.weights.put(key, mass);
        }
        return state.weights.size();
    }

    int weight(int weight, int what) {
        if (out(weight, 0, state.weights.size() - 1)) {
            return BAD_INDEX;
        }
        int key = new ArrayList<>(state.weights.keySet()).get(weight);
        int[] values = {key / 12 - 100, key % 12, state.weights.get(key)};
        return out(what, 0, 2) ? BAD_VALUE : values[what];
    }

    int cylinder(int cylinder, int what) {
        if (out(cylinder, 0, state.n - 1)) {
            return BAD_INDEX;
        }
        if (out(what, 0, 4)) {
            return BAD_VALUE;
        }
        if (what == 3) {
            return state.on[cylinder] ? 1 : 0;
        }
        if (what == 4) {
            return state.firing == null ? NONE : state.firing[cylinder];
        }
        return state.cylinders[cylinder][what];
    }

    /** The parts of a vector: x with a and b, then y with a and b. */
    private int[] parts(int vector) {
        int[] sum = new int[4];
        for (int[] cylinder : state.cylinders) {
            int turn = vector < 2 ? cylinder[0] : cylinder[0] * 2 % 12;
            join(sum, turn, cylinder[1] * (vector % 2 == 0 ? 1 : cylinder[2]));
        }
        for (int key : vector < 2 ? state.weights.keySet() : Collections.<Integer>emptySet()) {
            join(sum, key % 12, state.weights.get(key) * (vector % 2 == 0 ? 1 : key / 12 - 100));
        }
        return sum;
    }

    private static void join(int[] sum, int turn, int amount) {
        for (int i = 0; i < 2; i++) {
            sum[i] += amount * X[turn][i];
            sum[2 + i] += amount * X[(turn + 9) % 12][i];
        }
    }

    private static boolean zero(int[] parts) {
        return Arrays.equals(parts, new int[4]);
    }

    int vector(int vector, boolean y, boolean root) {
        return out(vector, 0, 3) ? BAD_INDEX : parts(vector)[(y ? 2 : 0) + (root ? 1 : 0)];
    }

    int balanced() {
        int set = 0;
        for (int vector = 0; vector < 4; vector++) {
            set += zero(parts(vector)) ? 1 << vector : 0;
        }
        return set;
    }

    int isMirrored() {
        List<Integer> sums = new ArrayList<>();
        for (int k = 0; k < state.n; k++) {
            int[] one = state.cylinders[k];
            int[] other = state.cylinders[state.n - 1 - k];
            if (one[0] != other[0] || one[1] != other[1]) {
                return 0;
            }
            sums.add(one[2] + other[2]);
        }
        return Collections.min(sums).equals(Collections.max(sums)) ? 1 : 0;
    }

    int counterWeight() {
        if (zero(parts(0))) {
            return 0;
        }
        for (int turn = 0; turn < 12; turn++) {
            for (int mass = 1; mass <= 999; mass++) {
                int[] sum = parts(0);
                join(sum, turn, mass);
                if (zero(sum)) {
                    return 1000 * turn + mass;
                }
            }
        }
        return NONE;
    }

    int counterPair(int place, int other) {
        if (out(place, -100, 100) || out(other, -100, 100) || place == other) {
            return BAD_VALUE;
        }
        int[] moment = parts(1);
        if (zero(moment)) {
            return 0;
        }
        for (int turn = 0; turn < 12; turn++) {
            for (int mass = 1; mass <= 999; mass++) {
                int[] sum = moment.clone();
                join(sum, turn, mass * place);
                join(sum, (turn + 6) % 12, mass * other);
                if (zero(sum)) {
                    return 1000 * turn + mass;
                }
            }
        }
        return NONE;
    }

    /** For each order, written as a text, the slots of its cylinders. */
    private TreeMap<String, int[]> firings() {
        TreeMap<String, int[]> found = new TreeMap<>();
        for (int choice = 0; choice < 1 << state.n; choice++) {
            int[] firing = new int[state.n];
            boolean can = true;
            for (int c = 0; c < state.n; c++) {
                int late = choice >> c & 1;
                firing[c] = (12 - state.cylinders[c][0]) % 12 + 12 * late;
                can &= firing[c] < cycle();
            }
            if (can && even(firing)) {
                String order = orderOf(firing);
                if (!found.containsKey(order) || found.get(order)[0] > firing[0]) {
                    found.put(order, firing);
                }
            }
        }
        return found;
    }

    private boolean even(int[] firing) {
        int[] sorted = firing.clone();
        Arrays.sort(sorted);
        if (cycle() % state.n != 0) {
            return false;
        }
        for (int i = 0; i < state.n; i++) {
            int next = i + 1 < state.n ? sorted[i + 1] : sorted[0] + cycle();
            if (next - sorted[i] != cycle() / state.n) {
                return false;
            }
        }
        return true;
    }

    private String orderOf(int[] firing) {
        StringBuilder order = new StringBuilder();
        for (int later = 0; later < cycle(); later++) {
            for (int c = 0; c < state.n; c++) {
                if (firing[c] == (firing[0] + later) % cycle()) {
                    order.append(c);
                }
            }
        }
        return order.toString();
    }

    private String orderText(int order) {
        return new ArrayList<>(firings().keySet()).get(order);
    }

    private int[] firing(int order) {
        return new ArrayList<>(firings().values()).get(order);
    }

    int orders() {
        return firings().size();
    }

    int order(int order, int place) {
        if (out(order, 0, orders() - 1) || out(place, 0, state.n - 1)) {
            return BAD_INDEX;
        }
        return orderText(order).charAt(place) - '0';
    }

    private int given(int[] firing, boolean[] on, int bearing, int slot) {
        int load = 0;
        for (int c = 0; c < state.n; c++) {
            for (int i = 0; i < 4; i++) {
                boolean here = (firing[c] + i) % cycle() == slot;
                if (on[c] && here && (c == bearing || c + 1 == bearing)) {
                    load += new int[] {8, 4, 2, 1}[i];
                }
            }
        }
        return load;
    }

    private int top(int[] firing, boolean[] on, int bearing) {
        int top = 0;
        for (int slot = 0; slot < cycle(); slot++) {
            top = Math.max(top, given(firing, on, bearing, slot));
        }
        return top;
    }

    private int penalty(String order) {
        int penalty = 0;
        for (int i = 0; i < order.length(); i++) {
            int step = order.charAt(i) - order.charAt((i + 1) % order.length());
            penalty += step == 1 || step == -1 ? 1 : 0;
        }
        return penalty;
    }

    int orderCost(int order, int what) {
        if (out(order, 0, orders() - 1)) {
            return BAD_INDEX;
        }
        if (what == 0) {
            return penalty(orderText(order));
        }
        if (what != 1) {
            return BAD_VALUE;
        }
        boolean[] all = new boolean[state.n];
        Arrays.fill(all, true);
        int top = 0;
        for (int bearing = 0; bearing <= state.n; bearing++) {
            top = Math.max(top, top(firing(order), all, bearing));
        }
        return top;
    }

    int bestOrder() {
        List<int[]> costs = new ArrayList<>();
        for (int order = 0; order < orders(); order++) {
            costs.add(new int[] {orderCost(order, 1), orderCost(order, 0), order});
        }
        costs.sort(Arrays::compare);
        return costs.isEmpty() ? NONE : costs.get(0)[2];
    }

    int choose(int order) {
        if (out(order, 0, orders() - 1)) {
            return BAD_INDEX;
        }
        state.firing = firing(order);
        return state.firing[0];
    }

    int append(int letter) {
        if (out(letter, 0, 127)) {
            return BAD_VALUE;
        }
        if (text.length() == 40) {
            return FULL;
        }
        text += (char) letter;
        return text.length();
    }

    int clearText() {
        int old = text.length();
        text = "";
        return old;
    }

    int faultPosition() {
        String left = "12345678".substring(0, state.n);
        for (int at = 0; at < text.length(); at++) {
            String letter = text.substring(at, at + 1);
            String due = left.isEmpty() ? "" : at % 2 == 0 ? left : "-";
            if (!due.contains(letter)) {
                return at;
            }
            left = left.replace(letter, "");
        }
        return left.isEmpty() ? NONE : text.length();
    }

    int find() {
        if (faultPosition() != NONE) {
            return NOT_POSSIBLE;
        }
        String told = text.replace("-", "");
        int number = 0;
        for (String order : firings().keySet()) {
            StringBuilder letters = new StringBuilder();
            for (char c : order.toCharArray()) {
                letters.append((char) (c + 1));
            }
            if ((told + told).contains(letters)) {
                return number;
            }
            number++;
        }
        return NONE;
    }

    private static int count(boolean[] on) {
        int count = 0;
        for (boolean one : on) {
            count += one ? 1 : 0;
        }
        return count;
    }

    int turn(int cylinder, boolean on) {
        if (out(cylinder, 0, state.n - 1)) {
            return BAD_INDEX;
        }
        if (state.firing == null) {
            return NOT_POSSIBLE;
        }
        state.on[cylinder] = on;
        return count(state.on);
    }

    /** Walks twice around the cycle and measures how long nothing fires. */
    private int gap(boolean[] on) {
        int longest = 0;
        int last = -1;
        for (int time = 0; time < 2 * cycle(); time++) {
            for (int c = 0; c < state.n; c++) {
                if (on[c] && state.firing[c] == time % cycle()) {
                    longest = last < 0 ? 0 : Math.max(longest, time - last);
                    last = time;
                }
            }
        }
        return longest;
    }

    int longestGap() {
        if (state.firing == null) {
            return NOT_POSSIBLE;
        }
        return count(state.on) == 0 ? NONE : gap(state.on);
    }

    int load(int bearing, int slot) {
        if (out(bearing, 0, state.n) || out(slot, 0, cycle() - 1)) {
            return BAD_INDEX;
        }
        return state.firing == null ? NOT_POSSIBLE : given(state.firing, state.on, bearing, slot);
    }

    int peak(int bearing) {
        if (out(bearing, 0, state.n)) {
            return BAD_INDEX;
        }
        return state.firing == null ? NOT_POSSIBLE : top(state.firing, state.on, bearing);
    }

    int bestOff() {
        if (state.firing == null) {
            return NOT_POSSIBLE;
        }
        List<int[]> gaps = new ArrayList<>();
        for (int c = 0; c < state.n; c++) {
            if (state.on[c]) {
                boolean[] then = state.on.clone();
                then[c] = false;
                gaps.add(new int[] {gap(then), c});
            }
        }
        gaps.sort(Arrays::compare);
        return gaps.size() < 2 ? NONE : gaps.get(0)[1];
    }

    int save(int slot) {
        if (out(slot, 0, 1)) {
            return BAD_INDEX;
        }
        slots[slot] = state.copy();
        return state.n;
    }

    int restore(int slot) {
        if (out(slot, 0, 1)) {
            return BAD_INDEX;
        }
        if (slots[slot] == null) {
            return NOT_POSSIBLE;
        }
        state = slots[slot].copy();
        return state.n;
    }

    long checksum() {
        List<Integer> values = new ArrayList<>();
        values.add(state.n);
        for (int i = 0; i < 5 * state.n; i++) {
            values.add(cylinder(i / 5, i % 5));
        }
        for (int i = 0; i < 3 * state.weights.size(); i++) {
            values.add(weight(i / 3, i % 3));
        }
        for (int i = 0; i < 16; i++) {
            values.add(parts(i / 4)[i % 4]);
        }
        Collections.addAll(values, balanced(), isMirrored(), counterWeight(), orders(), bestOrder());
        if (state.firing != null) {
            Collections.addAll(values, longestGap(), bestOff());
            for (int bearing = 0; bearing <= state.n; bearing++) {
                values.add(peak(bearing));
            }
        }
        long h = 137;
        for (int value : values) {
            h = 31 * h + value;
        }
        return h;
    }
}
