/** A layer-out of crankshafts and firing orders; what each method does is promised in DOC.md. */
public final class CrankLayout {

    public static final int BAD_INDEX = -1000001;
    public static final int BAD_VALUE = -1000002;
    public static final int NOT_POSSIBLE = -1000003;
    public static final int FULL = -1000004;
    public static final int NONE = -1000005;
    public static final int FORCE1 = 0, MOMENT1 = 1, FORCE2 = 2, MOMENT2 = 3;

    private static final int VECTORS = 4;
    private static final int MOST_CYLINDERS = 8;
    private static final int MOST_MASS = 99;
    private static final int MOST_WEIGHTS = 8;
    private static final int MOST_WEIGHT_MASS = 999;
    private static final int FARTHEST = 100;
    private static final int TURNS = 12;
    /** Eight cylinders have the most: three pairs are free, the pair of cylinder 0 is not. */
    private static final int MOST_ORDERS = 8;
    private static final int MOST_LETTERS = 40;
    private static final int NOT_CHOSEN = -1;

    /** The part x of the direction of each turn is (COS_A + COS_B * root of 3) / 2. */
    private static final int[] COS_A = {2, 0, 1, 0, -1, 0, -2, 0, -1, 0, 1, 0};
    private static final int[] COS_B = {0, 1, 0, 0, 0, -1, 0, -1, 0, 0, 0, 1};

    private final Shaft shaft;
    private final Firings firings;
    private final Sum sum;
    private final Text text;
    private final Shaft keptFirst;
    private final Shaft keptSecond;
    private boolean firstIsKept;
    private boolean secondIsKept;

    public CrankLayout() {
        shaft = new Shaft();
        firings = new Firings();
        sum = new Sum();
        text = new Text();
        keptFirst = new Shaft();
        keptSecond = new Shaft();
        firings.layOut(shaft);
    }

    // ---- the shaft

    public int setCylinders(int cylinders) {
        if (cylinders < 1 || cylinders > MOST_CYLINDERS) {
            return BAD_VALUE;
        }
        int before = shaft.cylinders;
        shaft.begin(cylinders);
        firingsChanged();
        return before;
    }

    public int setStrokes(int strokes) {
        if (strokes != 2 && strokes != 4) {
            return BAD_VALUE;
        }
        int before = shaft.strokes;
        shaft.strokes = strokes;
        firingsChanged();
        return before;
    }

    public int setThrow(int cylinder, int turn) {
        if (isNoCylinder(cylinder)) {
            return BAD_INDEX;
        }
        if (isNoTurn(turn)) {
            return BAD_VALUE;
        }
        int before = shaft.turns[cylinder];
        shaft.turns[cylinder] = turn;
        firingsChanged();
        return before;
    }

    public int setMass(int cylinder, int mass) {
        if (isNoCylinder(cylinder)) {
            return BAD_INDEX;
        }
        if (mass < 0 || mass > MOST_MASS) {
            return BAD_VALUE;
        }
        int before = shaft.masses[cylinder];
        shaft.masses[cylinder] = mass;
        return before;
    }

    public int setPlace(int cylinder, int place) {
        if (isNoCylinder(cylinder)) {
            return BAD_INDEX;
        }
        if (isNoPlace(place)) {
            return BAD_VALUE;
        }
        int before = shaft.places[cylinder];
        shaft.places[cylinder] = place;
        return before;
    }

    public int setWeight(int place, int turn, int mass) {
        if (isNoPlace(place) || isNoTurn(turn) || mass < 0 || mass > MOST_WEIGHT_MASS) {
            return BAD_VALUE;
        }
        Weights weights = shaft.weights;
        if (mass == 0) {
            weights.remove(place, turn);
            return weights.count;
        }
        return weights.put(place, turn, mass) ? weights.count : FULL;
    }

    public int weight(int weight, int what) {
        Weights weights = shaft.weights;
        if (weight < 0 || weight >= weights.count) {
            return BAD_INDEX;
        }
        switch (what) {
            case 0: return weights.places[weight];
            case 1: return weights.turns[weight];
            case 2: return weights.masses[weight];
            default: return BAD_VALUE;
        }
    }

    public int cylinder(int cylinder, int what) {
        if (isNoCylinder(cylinder)) {
            return BAD_INDEX;
        }
        switch (what) {
            case 0: return shaft.turns[cylinder];
            case 1: return shaft.masses[cylinder];
            case 2: return shaft.places[cylinder];
            case 3: return shaft.on >> cylinder & 1;
            case 4: return isChosen() ? firings.slotOf(shaft.chosen, cylinder) : NONE;
            default: return BAD_VALUE;
        }
    }

    // ---- balance

    public int vector(int vector, boolean y, boolean root) {
        if (vector < 0 || vector >= VECTORS) {
            return BAD_INDEX;
        }
        addUp(vector);
        return sum.part(y, root);
    }

    public int balanced() {
        int set = 0;
        for (int vector = 0; vector < VECTORS; vector++) {
            addUp(vector);
            if (sum.isZero()) {
                set |= 1 << vector;
            }
        }
        return set;
    }

    public int isMirrored() {
        return shaft.looksTheSameFromBehind() ? 1 : 0;
    }

    public int counterWeight() {
        addUp(FORCE1);
        return sum.counter(1);
    }

    public int counterPair(int place, int other) {
        if (isNoPlace(place) || isNoPlace(other) || place == other) {
            return BAD_VALUE;
        }
        addUp(MOMENT1);
        // Opposite directions differ by the sign alone, so the pair acts like one weight
        // with the distance of both for its place.
        return sum.counter(place - other);
    }

    // ---- firing

    public int orders() {
        return firings.count;
    }

    public int order(int order, int place) {
        if (isNoOrder(order) || place < 0 || place >= shaft.cylinders) {
            return BAD_INDEX;
        }
        return firings.cylinderAt(order, place);
    }

    public int orderCost(int order, int what) {
        if (isNoOrder(order)) {
            return BAD_INDEX;
        }
        switch (what) {
            case 0: return firings.penalty(order);
            case 1: return firings.greatestLoad(order);
            default: return BAD_VALUE;
        }
    }

    public int bestOrder() {
        int best = NONE;
        int bestCost = 0;
        for (int order = 0; order < firings.count; order++) {
            // No penalty is above 8, so a smaller peak outweighs every penalty.
            int cost = 100 * firings.greatestLoad(order) + firings.penalty(order);
            if (best == NONE || cost < bestCost) {
                best = order;
                bestCost = cost;
            }
        }
        return best;
    }

    public int choose(int order) {
        if (isNoOrder(order)) {
            return BAD_INDEX;
        }
        shaft.chosen = order;
        return firings.slotOf(order, 0);
    }

    // ---- text

    public int append(int letter) {
        if (letter < 0 || letter > 127) {
            return BAD_VALUE;
        }
        return text.put(letter) ? text.length : FULL;
    }

    public int clearText() {
        int before = text.length;
        text.length = 0;
        return before;
    }

    public int faultPosition() {
        return text.faultFor(shaft.cylinders);
    }

    public int find() {
        if (text.faultFor(shaft.cylinders) != NONE) {
            return NOT_POSSIBLE;
        }
        for (int order = 0; order < firings.count; order++) {
            if (textTells(order)) {
                return order;
            }
        }
        return NONE;
    }

    // ---- the chosen firing

    public int turn(int cylinder, boolean on) {
        if (isNoCylinder(cylinder)) {
            return BAD_INDEX;
        }
        if (!isChosen()) {
            return NOT_POSSIBLE;
        }
        if (on) {
            shaft.on |= 1 << cylinder;
        } else {
            shaft.on &= ~(1 << cylinder);
        }
        return Integer.bitCount(shaft.on);
    }

    public int longestGap() {
        if (!isChosen()) {
            return NOT_POSSIBLE;
        }
        return shaft.on == 0 ? NONE : firings.gap(shaft.chosen, shaft.on);
    }

    public int load(int bearing, int slot) {
        if (isNoBearing(bearing) || slot < 0 || slot >= shaft.slots()) {
            return BAD_INDEX;
        }
        if (!isChosen()) {
            return NOT_POSSIBLE;
        }
        return firings.loadOf(shaft.chosen, shaft.on, bearing, slot);
    }

    public int peak(int bearing) {
        if (isNoBearing(bearing)) {
            return BAD_INDEX;
        }
        if (!isChosen()) {
            return NOT_POSSIBLE;
        }
        return firings.peakOf(shaft.chosen, shaft.on, bearing);
    }

    public int bestOff() {
        if (!isChosen()) {
            return NOT_POSSIBLE;
        }
        if (Integer.bitCount(shaft.on) < 2) {
            return NONE;
        }
        int best = NONE;
        int bestGap = 0;
        for (int cylinder = 0; cylinder < shaft.cylinders; cylinder++) {
            if ((shaft.on >> cylinder & 1) == 1) {
                int gap = firings.gap(shaft.chosen, shaft.on & ~(1 << cylinder));
                if (best == NONE || gap < bestGap) {
                    best = cylinder;
                    bestGap = gap;
                }
            }
        }
        return best;
    }

    // ---- slots, checksum

    public int save(int slot) {
        if (slot == 0) {
            keptFirst.takeOver(shaft);
            firstIsKept = true;
        } else if (slot == 1) {
            keptSecond.takeOver(shaft);
            secondIsKept = true;
        } else {
            return BAD_INDEX;
        }
        return shaft.cylinders;
    }

    public int restore(int slot) {
        if (slot != 0 && slot != 1) {
            return BAD_INDEX;
        }
        if (slot == 0 ? !firstIsKept : !secondIsKept) {
            return NOT_POSSIBLE;
        }
        shaft.takeOver(slot == 0 ? keptFirst : keptSecond);
        // The same shaft has the same orders under the same numbers, so the chosen one stays.
        firings.layOut(shaft);
        return shaft.cylinders;
    }

    public long checksum() {
        long h = mix(137, shaft.cylinders);
        for (int cylinder = 0; cylinder < shaft.cylinders; cylinder++) {
            for (int what = 0; what <= 4; what++) {
                h = mix(h, cylinder(cylinder, what));
            }
        }
        for (int weight = 0; weight < shaft.weights.count; weight++) {
            for (int what = 0; what <= 2; what++) {
                h = mix(h, weight(weight, what));
            }
        }
        h = mixBalance(h);
        h = mix(h, orders());
        h = mix(h, bestOrder());
        return isChosen() ? mixChosen(h) : h;
    }

    private long mixBalance(long start) {
        long h = start;
        for (int vector = 0; vector < VECTORS; vector++) {
            addUp(vector);
            h = mix(h, sum.part(false, false));
            h = mix(h, sum.part(false, true));
            h = mix(h, sum.part(true, false));
            h = mix(h, sum.part(true, true));
        }
        h = mix(h, balanced());
        h = mix(h, isMirrored());
        return mix(h, counterWeight());
    }

    private long mixChosen(long start) {
        long h = mix(start, longestGap());
        h = mix(h, bestOff());
        for (int bearing = 0; bearing <= shaft.cylinders; bearing++) {
            h = mix(h, peak(bearing));
        }
        return h;
    }

    private static long mix(long h, long value) {
        return 31 * h + value;
    }

    private boolean isNoCylinder(int cylinder) {
        return cylinder < 0 || cylinder >= shaft.cylinders;
    }

    private boolean isNoBearing(int bearing) {
        return bearing < 0 || bearing > shaft.cylinders;
    }

    private boolean isNoOrder(int order) {
        return order < 0 || order >= firings.count;
    }

    private static boolean isNoTurn(int turn) {
        return turn < 0 || turn >= TURNS;
    }

    private static boolean isNoPlace(int place) {
        return place < -FARTHEST || place > FARTHEST;
    }

    private boolean isChosen() {
        return shaft.chosen != NOT_CHOSEN;
    }

    private void firingsChanged() {
        shaft.dropChoice();
        firings.layOut(shaft);
    }

    private void addUp(int vector) {
        boolean isMoment = vector == MOMENT1 || vector == MOMENT2;
        boolean isSecond = vector == FORCE2 || vector == MOMENT2;
        sum.clear();
        for (int i = 0; i < shaft.cylinders; i++) {
            int turn = isSecond ? 2 * shaft.turns[i] : shaft.turns[i];
            sum.add(turn, isMoment ? shaft.masses[i] * shaft.places[i] : shaft.masses[i]);
        }
        if (!isSecond) {
            Weights weights = shaft.weights;
            for (int i = 0; i < weights.count; i++) {
                int mass = weights.masses[i];
                sum.add(weights.turns[i], isMoment ? mass * weights.places[i] : mass);
            }
        }
    }

    /** Whether the text, which must have no fault, goes around like this order. */
    private boolean textTells(int order) {
        int cylinders = shaft.cylinders;
        int start = 0;
        for (int place = 0; place < cylinders; place++) {
            if (text.cylinderAt(place) == 0) {
                start = place;
            }
        }
        for (int place = 0; place < cylinders; place++) {
            int inText = start + place < cylinders ? start + place : start + place - cylinders;
            if (text.cylinderAt(inText) != firings.cylinderAt(order, place)) {
                return false;
            }
        }
        return true;
    }

    /** The text, without a meaning until it is asked for one. */
    private static final class Text {
        private int length;
        private final byte[] letters = new byte[MOST_LETTERS];

        /** Answers false, and changes nothing, if there is no room. */
        boolean put(int letter) {
            if (length >= MOST_LETTERS) {
                return false;
            }
            letters[length] = (byte) letter;
            length++;
            return true;
        }

        int faultFor(int cylinders) {
            int whole = 2 * cylinders - 1;
            int used = 0;
            for (int i = 0; i < length; i++) {
                if (i >= whole) {
                    return i;
                }
                if (i % 2 == 1) {
                    if (letters[i] != '-') {
                        return i;
                    }
                } else {
                    int cylinder = letters[i] - '1';
                    if (cylinder < 0 || cylinder >= cylinders || (used >> cylinder & 1) == 1) {
                        return i;
                    }
                    used |= 1 << cylinder;
                }
            }
            return length < whole ? length : NONE;
        }

        int cylinderAt(int place) {
            return letters[2 * place] - '1';
        }
    }

    /** The weights in the order of their numbers. */
    private static final class Weights {
        int count;
        final int[] places = new int[MOST_WEIGHTS];
        final int[] turns = new int[MOST_WEIGHTS];
        final int[] masses = new int[MOST_WEIGHTS];

        /** Answers false, and changes nothing, if there is no room. */
        boolean put(int place, int turn, int mass) {
            int rank = rankOf(place, turn);
            if (!standsAt(rank, place, turn)) {
                if (count >= MOST_WEIGHTS) {
                    return false;
                }
                for (int i = count; i > rank; i--) {
                    copyWithin(i - 1, i);
                }
                places[rank] = place;
                turns[rank] = turn;
                count++;
            }
            masses[rank] = mass;
            return true;
        }

        void remove(int place, int turn) {
            int rank = rankOf(place, turn);
            if (standsAt(rank, place, turn)) {
                count--;
                for (int i = rank; i < count; i++) {
                    copyWithin(i + 1, i);
                }
            }
        }

        void takeOver(Weights other) {
            count = other.count;
            System.arraycopy(other.places, 0, places, 0, MOST_WEIGHTS);
            System.arraycopy(other.turns, 0, turns, 0, MOST_WEIGHTS);
            System.arraycopy(other.masses, 0, masses, 0, MOST_WEIGHTS);
        }

        private void copyWithin(int from, int to) {
            places[to] = places[from];
            turns[to] = turns[from];
            masses[to] = masses[from];
        }

        /** How many weights come before one with this place and turn. */
        private int rankOf(int place, int turn) {
            int rank = 0;
            for (int i = 0; i < count; i++) {
                if (places[i] < place || places[i] == place && turns[i] < turn) {
                    rank++;
                }
            }
            return rank;
        }

        private boolean standsAt(int rank, int place, int turn) {
            return rank < count && places[rank] == place && turns[rank] == turn;
        }
    }

    /** All that a slot keeps. */
    private static final class Shaft {
        int cylinders;
        int strokes = 4;
        final int[] turns = new int[MOST_CYLINDERS];
        final int[] masses = new int[MOST_CYLINDERS];
        final int[] places = new int[MOST_CYLINDERS];
        final Weights weights = new Weights();
        /** The number of the order of the chosen firing. */
        int chosen;
        /** The set of the cylinders that are on, bit k for cylinder k. */
        int on;

        Shaft() {
            begin(4);
        }

        void begin(int count) {
            cylinders = count;
            for (int i = 0; i < MOST_CYLINDERS; i++) {
                turns[i] = 0;
                masses[i] = 10;
                places[i] = 10 * i;
            }
            dropChoice();
        }

        void dropChoice() {
            chosen = NOT_CHOSEN;
            on = all();
        }

        int all() {
            return (1 << cylinders) - 1;
        }

        int slots() {
            return strokes == 2 ? TURNS : 2 * TURNS;
        }

        int lowSlot(int cylinder) {
            return turns[cylinder] == 0 ? 0 : TURNS - turns[cylinder];
        }

        boolean looksTheSameFromBehind() {
            for (int i = 0; i < cylinders; i++) {
                int twin = cylinders - 1 - i;
                if (turns[i] != turns[twin] || masses[i] != masses[twin]
                        || places[i] + places[twin] != places[0] + places[cylinders - 1]) {
                    return false;
                }
            }
            return true;
        }

        void takeOver(Shaft other) {
            cylinders = other.cylinders;
            strokes = other.strokes;
            System.arraycopy(other.turns, 0, turns, 0, MOST_CYLINDERS);
            System.arraycopy(other.masses, 0, masses, 0, MOST_CYLINDERS);
            System.arraycopy(other.places, 0, places, 0, MOST_CYLINDERS);
            weights.takeOver(other.weights);
            chosen = other.chosen;
            on = other.on;
        }
    }

    /** A sum of directions, each part as a and b of (a + b * root of 3) / 2. */
    private static final class Sum {
        private int xa;
        private int xb;
        private int ya;
        private int yb;

        void clear() {
            xa = 0;
            xb = 0;
            ya = 0;
            yb = 0;
        }

        void add(int turn, int amount) {
            int x = Math.floorMod(turn, TURNS);
            int y = Math.floorMod(turn + 9, TURNS);
            xa += amount * COS_A[x];
            xb += amount * COS_B[x];
            ya += amount * COS_A[y];
            yb += amount * COS_B[y];
        }

        boolean isZero() {
            return xa == 0 && xb == 0 && ya == 0 && yb == 0;
        }

        int part(boolean y, boolean root) {
            if (y) {
                return root ? yb : ya;
            }
            return root ? xb : xa;
        }

        /** The answer of counterWeight, if a mass of 1 counts for as much as the lever. */
        int counter(int lever) {
            if (isZero()) {
                return 0;
            }
            for (int turn = 0; turn < TURNS; turn++) {
                int mass = massAgainst(turn, lever);
                if (mass != 0) {
                    return 1000 * turn + mass;
                }
            }
            return NONE;
        }

        /** The mass that makes the sum zero, or 0 if there is none from 1 to 999. */
        private int massAgainst(int turn, int lever) {
            int x = Math.floorMod(turn, TURNS);
            int y = Math.floorMod(turn + 9, TURNS);
            // Each direction has a whole number in x or in y; this tells the only mass to try.
            int mass = COS_A[x] != 0
                    ? quotient(-xa, lever * COS_A[x]) : quotient(-ya, lever * COS_A[y]);
            int amount = mass * lever;
            boolean isExact = xa + amount * COS_A[x] == 0 && xb + amount * COS_B[x] == 0
                    && ya + amount * COS_A[y] == 0 && yb + amount * COS_B[y] == 0;
            return isExact && mass >= 1 && mass <= MOST_WEIGHT_MASS ? mass : 0;
        }

        private static int quotient(int whole, int divisor) {
            return divisor == 0 ? 0 : whole / divisor;
        }
    }

    /** The even firings with different orders, by their numbers. */
    private static final class Firings {
        private int count;
        private int cylinders;
        private int slots;
        private int step;
        private final int[] path = new int[MOST_CYLINDERS];
        /** In rows of MOST_CYLINDERS, a row for an order: the cylinders by their places in it. */
        private final int[] sequences = new int[MOST_ORDERS * MOST_CYLINDERS];
        /** In rows as well: the slots by the cylinders. */
        private final int[] slotRows = new int[MOST_ORDERS * MOST_CYLINDERS];

        void layOut(Shaft shaft) {
            count = 0;
            cylinders = shaft.cylinders;
            slots = shaft.slots();
            if (cylinders >= 1 && slots % cylinders == 0) {
                step = slots / cylinders;
                path[0] = 0;
                extend(this, shaft, 1, 1);
            }
        }

        /**
         * Tries the cylinders for a place of the order, the lower ones first, so that the orders
         * are found by their numbers. Cylinder 0 stays in its lower slot: in the higher one it
         * gives the same orders again. Static, for no other method may call itself.
         */
        private static void extend(Firings firings, Shaft shaft, int place, int used) {
            if (place >= firings.cylinders) {
                firings.enter(shaft);
                return;
            }
            int due = (shaft.lowSlot(0) + place * firings.step) % TURNS;
            for (int cylinder = 1; cylinder < firings.cylinders; cylinder++) {
                if ((used >> cylinder & 1) == 0 && shaft.lowSlot(cylinder) == due) {
                    firings.path[place] = cylinder;
                    extend(firings, shaft, place + 1, used | 1 << cylinder);
                }
            }
        }

        private void enter(Shaft shaft) {
            if (count >= MOST_ORDERS) {
                return;
            }
            int row = count * MOST_CYLINDERS;
            int slot = shaft.lowSlot(0);
            for (int place = 0; place < cylinders; place++) {
                sequences[row + place] = path[place];
                slotRows[row + path[place]] = slot;
                slot = slot + step < slots ? slot + step : slot + step - slots;
            }
            count++;
        }

        int cylinderAt(int order, int place) {
            return sequences[order * MOST_CYLINDERS + place];
        }

        int slotOf(int order, int cylinder) {
            return slotRows[order * MOST_CYLINDERS + cylinder];
        }

        int penalty(int order) {
            int penalty = 0;
            int before = cylinderAt(order, cylinders - 1);
            for (int place = 0; place < cylinders; place++) {
                int next = cylinderAt(order, place);
                if (Math.abs(next - before) == 1) {
                    penalty++;
                }
                before = next;
            }
            return penalty;
        }

        /** The peak of the firing with all cylinders on. */
        int greatestLoad(int order) {
            int greatest = 0;
            for (int bearing = 0; bearing <= cylinders; bearing++) {
                greatest = Math.max(greatest, peakOf(order, (1 << cylinders) - 1, bearing));
            }
            return greatest;
        }

        int peakOf(int order, int on, int bearing) {
            int peak = 0;
            // Between two firings the loads only fall, so the greatest one is met in a slot
            // in which one of both cylinders fires.
            for (int cylinder = bearing - 1; cylinder <= bearing; cylinder++) {
                if (cylinder >= 0 && cylinder < cylinders) {
                    int slot = slotOf(order, cylinder);
                    peak = Math.max(peak, loadOf(order, on, bearing, slot));
                }
            }
            return peak;
        }

        int loadOf(int order, int on, int bearing, int slot) {
            return shareOf(order, on, bearing - 1, slot) + shareOf(order, on, bearing, slot);
        }

        /** What a cylinder, if there is such a one and it is on, gives to each bearing beside it. */
        private int shareOf(int order, int on, int cylinder, int slot) {
            if (cylinder < 0 || cylinder >= cylinders || (on >> cylinder & 1) == 0) {
                return 0;
            }
            int since = slotsFrom(slotOf(order, cylinder), slot);
            return since < 4 ? 8 >> since : 0;
        }

        /** The longest gap if just these cylinders are on; 0 if none is. */
        int gap(int order, int on) {
            int longest = 0;
            for (int cylinder = 0; cylinder < cylinders; cylinder++) {
                if ((on >> cylinder & 1) == 1) {
                    longest = Math.max(longest, gapBehind(order, on, cylinder));
                }
            }
            return longest;
        }

        private int gapBehind(int order, int on, int cylinder) {
            int gap = slots;
            for (int other = 0; other < cylinders; other++) {
                if (other != cylinder && (on >> other & 1) == 1) {
                    gap = Math.min(gap, slotsFrom(slotOf(order, cylinder), slotOf(order, other)));
                }
            }
            return gap;
        }

        private int slotsFrom(int slot, int later) {
            return later >= slot ? later - slot : later - slot + slots;
        }
    }
}
