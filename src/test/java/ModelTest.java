/** Long runs of calls, answered by the program and by the plain model alike. */
public final class ModelTest {
    private static final int RUNS = 400;
    /** An object is used for at most 512 calls, and the checksum at the end is one of them. */
    private static final int CALLS = 511;
    private static final int LONGEST_STEP = 18;
    private static final int[] EDGES = {Integer.MIN_VALUE, Integer.MAX_VALUE, -1000005, -1,
        -101, -100, 100, 101, 128, 127, 256, 999, 1000, 1 << 16, -129, 40, 64, 1 << 30};

    private static final Due DUE = new Due("ModelTest");

    private static long seed;
    private static CrankLayout x;
    private static PlainModel model;

    public static void main(String[] args) {
        for (int run = 0; run < RUNS; run++) {
            seed = 7919L * run + 1;
            x = new CrankLayout();
            model = new PlainModel();
            int calls = 0;
            while (calls <= CALLS - LONGEST_STEP) {
                calls += below(12) == 0 ? layOutEvenly() : below(9) == 0 ? tell() : any();
            }
            DUE.is("checksum() after run " + run, x.checksum(), model.checksum());
        }
        DUE.end();
    }

    /** A number of its own making, so that the same runs are always made. */
    private static int below(int bound) {
        seed = seed * 6364136223846793005L + 1442695040888963407L;
        return (int) ((seed >>> 33) % bound);
    }

    /** Mostly a number of this range, at times one beside it, seldom one that is far away. */
    private static int near(int low, int high) {
        int kind = below(24);
        if (kind == 0) {
            return EDGES[below(EDGES.length)];
        }
        if (kind == 1) {
            return below(2) == 0 ? low - 1 : high + 1;
        }
        if (kind == 2) {
            return below(2) == 0 ? low : high;
        }
        return low + below(high - low + 1);
    }

    /** Sets a shaft that has an even firing, and chooses one. */
    private static int layOutEvenly() {
        int strokes = below(3) == 0 ? 2 : 4;
        int n = new int[] {1, 2, 3, 4, 6, 8}[strokes == 2 ? below(5) : below(6)];
        int cycle = 6 * strokes;
        int[] order = shuffled(n);
        int first = below(cycle);
        DUE.is("setStrokes", x.setStrokes(strokes), model.setStrokes(strokes));
        DUE.is("setCylinders", x.setCylinders(n), model.setCylinders(n));
        for (int i = 0; i < n; i++) {
            int slot = (first + i * (cycle / n)) % cycle;
            int turn = (24 - slot) % 12;
            DUE.is("setThrow", x.setThrow(order[i], turn), model.setThrow(order[i], turn));
        }
        int chosen = below(Math.max(1, model.orders()));
        DUE.is("choose", x.choose(chosen), model.choose(chosen));
        return n + 3;
    }

    /** Writes a text with the right numbers, and at times with a fault, and looks for it. */
    private static int tell() {
        DUE.is("clearText", x.clearText(), model.clearText());
        int n = 1;
        while (model.cylinder(n, 0) != PlainModel.BAD_INDEX) {
            n++;
        }
        int[] order = shuffled(n);
        if (model.orders() > 0 && below(4) != 0) {
            int number = below(model.orders());
            int start = below(n);
            for (int i = 0; i < n; i++) {
                order[(start + i) % n] = model.order(number, i);
            }
        }
        int fault = below(6) == 0 ? below(2 * n) : -1;
        for (int i = 0; i < 2 * n - 1; i++) {
            int letter = i % 2 == 1 ? '-' : '1' + order[i / 2];
            put(i == fault ? '0' + below(11) : letter);
        }
        DUE.is("faultPosition", x.faultPosition(), model.faultPosition());
        DUE.is("find", x.find(), model.find());
        return 2 * n + 2;
    }

    private static void put(int letter) {
        DUE.is("append", x.append(letter), model.append(letter));
    }

    private static int[] shuffled(int n) {
        int[] order = new int[n];
        for (int i = 0; i < n; i++) {
            int at = below(i + 1);
            order[i] = order[at];
            order[at] = i;
        }
        return order;
    }

    private static int any() {
        int call = below(40);
        if (call < 15) {
            anySetter(call);
        } else if (call < 28) {
            anyOfBalanceAndFiring(call - 15);
        } else {
            anyOther(call - 28);
        }
        return 1;
    }

    private static void anySetter(int call) {
        int c = near(0, 7);
        int turn = near(0, 11);
        int place = below(2) == 0 ? near(-100, 100) : near(-3, 3);
        switch (call) {
            case 0 -> {
                int n = below(3) == 0 ? near(1, 8) : 9;
                DUE.is("setCylinders " + n, x.setCylinders(n), model.setCylinders(n));
            }
            case 1 -> {
                int strokes = below(3) == 0 ? near(1, 5) : 3;
                DUE.is("setStrokes " + strokes, x.setStrokes(strokes), model.setStrokes(strokes));
            }
            case 2 -> {
                int other = below(3) == 0 ? turn : 12;
                DUE.is("setThrow", x.setThrow(c, other), model.setThrow(c, other));
            }
            case 3, 4 -> {
                int mass = below(2) == 0 ? near(0, 99) : 10;
                DUE.is("setMass", x.setMass(c, mass), model.setMass(c, mass));
            }
            case 5 -> DUE.is("setPlace", x.setPlace(c, place), model.setPlace(c, place));
            case 6, 7, 8 -> {
                int mass = below(3) == 0 ? near(0, 999) : near(0, 3) * 10;
                DUE.is("setWeight", x.setWeight(place, turn, mass), model.setWeight(place, turn, mass));
            }
            case 9 -> balanceByWeight(place);
            case 10 -> {
                int weight = near(0, 7);
                int what = near(0, 2);
                DUE.is("weight", x.weight(weight, what), model.weight(weight, what));
            }
            case 11, 12 -> {
                int what = near(0, 4);
                DUE.is("cylinder", x.cylinder(c, what), model.cylinder(c, what));
            }
            case 13 -> DUE.is("save", x.save(c % 2), model.save(c % 2));
            default -> {
                int slot = below(3) == 0 ? near(0, 1) : 2;
                DUE.is("restore " + slot, x.restore(slot), model.restore(slot));
            }
        }
    }

    /** So that FORCE1 is balanced now and then. */
    private static void balanceByWeight(int place) {
        int counter = Math.max(0, model.counterWeight());
        int turn = counter / 1000;
        int mass = counter % 1000;
        DUE.is("setWeight", x.setWeight(place, turn, mass), model.setWeight(place, turn, mass));
    }

    private static void anyOfBalanceAndFiring(int call) {
        int order = below(2) == 0 ? near(0, 7) : near(0, 1);
        switch (call) {
            case 0, 1 -> {
                int vector = near(0, 3);
                boolean y = below(2) == 0;
                boolean root = below(2) == 0;
                DUE.is("vector", x.vector(vector, y, root), model.vector(vector, y, root));
            }
            case 2 -> DUE.is("balanced", x.balanced(), model.balanced());
            case 3 -> DUE.is("isMirrored", x.isMirrored(), model.isMirrored());
            case 4 -> DUE.is("counterWeight", x.counterWeight(), model.counterWeight());
            case 5, 6 -> {
                int place = below(2) == 0 ? near(-100, 100) : near(-2, 2);
                int other = below(2) == 0 ? near(-100, 100) : near(-2, 2);
                DUE.is("counterPair", x.counterPair(place, other), model.counterPair(place, other));
            }
            case 7 -> DUE.is("orders", x.orders(), model.orders());
            case 8, 9 -> {
                int place = near(0, 7);
                DUE.is("order", x.order(order, place), model.order(order, place));
            }
            case 10 -> {
                int what = near(0, 1);
                DUE.is("orderCost", x.orderCost(order, what), model.orderCost(order, what));
            }
            case 11 -> DUE.is("bestOrder", x.bestOrder(), model.bestOrder());
            default -> DUE.is("choose", x.choose(order), model.choose(order));
        }
    }

    private static void anyOther(int call) {
        int c = near(0, 7);
        switch (call) {
            case 0 -> put(near(0, 127));
            case 1 -> put(below(2) == 0 ? '-' : near('0', '9'));
            case 2 -> DUE.is("faultPosition", x.faultPosition(), model.faultPosition());
            case 3 -> DUE.is("find", x.find(), model.find());
            case 4, 5, 6 -> {
                boolean on = below(2) == 0;
                DUE.is("turn", x.turn(c, on), model.turn(c, on));
            }
            case 7 -> DUE.is("longestGap", x.longestGap(), model.longestGap());
            case 8 -> {
                int slot = near(0, below(2) == 0 ? 23 : 11);
                DUE.is("load", x.load(c, slot), model.load(c, slot));
            }
            case 9 -> DUE.is("peak", x.peak(c), model.peak(c));
            case 10 -> DUE.is("bestOff", x.bestOff(), model.bestOff());
            default -> DUE.is("checksum", x.checksum(), model.checksum());
        }
    }
}
