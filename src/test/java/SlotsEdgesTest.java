import java.util.List;
import java.util.function.Consumer;
import java.util.function.Supplier;

/** The edges of the promises 29 to 31: a method for each sentence, which stands above it. */
public final class SlotsEdgesTest {
    private static final int BAD_INDEX = -1000001;
    private static final int NOT_POSSIBLE = -1000003;
    private static final int FULL = -1000004;
    private static final int NONE = -1000005;
    private static final int LEAST = Integer.MIN_VALUE;
    private static final int MOST = Integer.MAX_VALUE;

    private static final Due DUE = new Due("SlotsEdgesTest");

    public static void main(String[] args) throws Exception {
        Every.test(SlotsEdgesTest.class, DUE);
    }

    private static Same same(Supplier<CrankLayout> state) {
        return new Same(DUE, state);
    }

    /** Eight cylinders and eight weights, order 1 is chosen, and cylinder 3 is off. */
    private static CrankLayout rich() {
        CrankLayout x = Make.eight();
        for (int k = 0; k < 8; k++) {
            x.setMass(k, 99 - k);
            x.setPlace(k, 100 - k * k);
        }
        Make.eightWeights(x);
        x.choose(1);
        x.turn(3, false);
        return x;
    }

    /** One cylinder with two strokes, and without weights and a choice. */
    private static CrankLayout poor() {
        return Make.twoStrokes(5);
    }

    private static void takeAllAway(CrankLayout x) {
        for (int left = 8; left > 0; left--) {
            x.setWeight(x.weight(left / 2, 0), x.weight(left / 2, 1), 0);
        }
    }

    /** Makes another layout of it; the weights and the slots stay. */
    private static void becomeFour(CrankLayout x) {
        x.setCylinders(4);
        x.setThrow(1, 6);
        x.setThrow(2, 6);
        x.choose(1);
        x.turn(1, false);
    }

    // ---- promise 29

    /** "0 or 1", "Returns n": for every n */
    static void promise29TakesZeroAndOne() {
        for (int slot = 0; slot <= 1; slot++) {
            CrankLayout x = new CrankLayout();
            for (int n = 1; n <= 8; n++) {
                x.setCylinders(n);
                DUE.is("save(" + slot + ") of " + n, x.save(slot), n);
            }
        }
    }

    /** "0 or 1": what lies beside; what the slots keep stays */
    static void promise29RefusesMinusOneAndTwo() {
        for (int slot : new int[] {LEAST, -1, 2, 3, 256, MOST}) {
            String call = "save(" + slot + ")";
            same(CrankLayout::new).after(call, x -> x.save(slot), BAD_INDEX);
            same(Make::one).after(call, x -> x.save(slot), BAD_INDEX);
            same(Make::full).after(call, x -> x.save(slot), BAD_INDEX);
        }
    }

    /** "in place of what the slot keeps": of the greatest and of the smallest */
    static void promise29TakesThePlace() {
        for (int slot = 0; slot <= 1; slot++) {
            CrankLayout x = rich();
            x.save(slot);
            x.setCylinders(1);
            x.setStrokes(2);
            takeAllAway(x);
            x.setThrow(0, 5);
            x.save(slot);
            becomeFour(x);
            DUE.is("restore(" + slot + ")", x.restore(slot), 1);
            DUE.holds("as it was then", Seen.shaft(x).equals(Seen.shaft(poor())));
        }
    }

    /** it saves, and changes nothing that is saved; the other slot stays empty */
    static void promise29KeepsTheShaft() {
        for (int slot = 0; slot <= 1; slot++) {
            for (Supplier<CrankLayout> state : states()) {
                CrankLayout x = state.get();
                x.save(slot);
                DUE.holds("as it was", Seen.shaft(x).equals(Seen.shaft(state.get())));
                DUE.is("the other slot", x.restore(1 - slot), NOT_POSSIBLE);
            }
        }
    }

    private static List<Supplier<CrankLayout>> states() {
        return List.of(CrankLayout::new, SlotsEdgesTest::rich, SlotsEdgesTest::poor);
    }

    /** "Saves everything ... (so the chosen firing, and which cylinders are on, too)" */
    static void promise29KeepsWhatIsChangedThen() {
        isKept("throw", x -> x.setThrow(7, 1));
        isKept("mass", x -> x.setMass(7, 1));
        isKept("place", x -> x.setPlace(0, 1));
        isKept("first weight", x -> x.setWeight(-100, 0, 2));
        isKept("last weight", x -> x.setWeight(100, 11, 0));
        isKept("a weight less", x -> x.setWeight(-100, 0, 0));
        isKept("another place of a weight", x -> {
            x.setWeight(0, 0, 0);
            x.setWeight(2, 0, 20);
        });
        isKept("another turn of a weight", x -> {
            x.setWeight(3, 7, 0);
            x.setWeight(3, 8, 7);
        });
        isKept("strokes", x -> x.setStrokes(2));
        isKept("the same strokes", x -> x.setStrokes(4));
        isKept("n", x -> x.setCylinders(7));
        isKept("the same n", x -> x.setCylinders(8));
        isKept("another order", x -> x.choose(6));
        isKept("one more off", x -> x.turn(7, false));
        isKept("one more on", x -> x.turn(3, true));
    }

    /** A change behind save() is not in the slot; one behind restore() is not either. */
    private static void isKept(String what, Consumer<CrankLayout> change) {
        for (int slot = 0; slot <= 1; slot++) {
            CrankLayout x = rich();
            x.save(slot);
            String saved = Seen.shaft(x);
            change.accept(x);
            DUE.holds(what + " is changed", !Seen.shaft(x).equals(saved));
            x.restore(slot);
            DUE.holds(what + " is back", Seen.shaft(x).equals(saved));
            change.accept(x);
            x.restore(slot);
            DUE.holds(what + " is back again", Seen.shaft(x).equals(saved));
            DUE.is("strokes behind " + what, x.setStrokes(4), 4);
        }
    }

    /** "except the text" */
    static void promise29SavesNoText() {
        CrankLayout x = Make.four();
        Make.type(x, "1-2-4");
        x.save(0);
        Make.type(x, "-3");
        x.restore(0);
        DUE.is("find()", x.find(), 0);
        x.clearText();
        x.restore(0);
        DUE.is("clearText()", x.clearText(), 0);
    }

    /** "except ... the slots": what the other slot keeps is not in it */
    static void promise29SavesNoSlots() {
        CrankLayout x = new CrankLayout();
        x.setCylinders(1);
        x.save(1);
        x.setCylinders(2);
        x.save(0);
        x.setCylinders(3);
        x.save(1);
        DUE.is("restore(0)", x.restore(0), 2);
        DUE.is("restore(1)", x.restore(1), 3);
        CrankLayout y = new CrankLayout();
        y.save(0);
        y.setCylinders(6);
        y.save(1);
        DUE.is("restore(0) from before save(1)", y.restore(0), 4);
        DUE.is("restore(1) stays", y.restore(1), 6);
    }

    // ---- promise 30

    /** "0 or 1", "Returns n then": for every n */
    static void promise30TakesZeroAndOne() {
        for (int slot = 0; slot <= 1; slot++) {
            CrankLayout x = new CrankLayout();
            for (int n = 1; n <= 8; n++) {
                x.setCylinders(n);
                x.save(slot);
                x.setCylinders(9 - n);
                DUE.is("restore(" + slot + ") of " + n, x.restore(slot), n);
                DUE.is("n", x.setCylinders(4), n);
            }
        }
    }

    /** "0 or 1": what lies beside; "BAD_INDEX; NOT_POSSIBLE" */
    static void promise30RefusesMinusOneAndTwo() {
        for (int slot : new int[] {LEAST, -1, 2, 3, 256, MOST}) {
            String call = "restore(" + slot + ")";
            same(CrankLayout::new).after(call, x -> x.restore(slot), BAD_INDEX);
            same(Make::one).after(call, x -> x.restore(slot), BAD_INDEX);
            same(Make::full).after(call, x -> x.restore(slot), BAD_INDEX);
        }
    }

    /** "NOT_POSSIBLE if nothing has been saved in the slot": in neither, or in the other one */
    static void promise30NeedsASave() {
        for (int slot = 0; slot <= 1; slot++) {
            int asked = slot;
            same(CrankLayout::new).after("restore(" + slot + ")", x -> x.restore(asked), NOT_POSSIBLE);
            same(SlotsEdgesTest::rich).after("restore(" + slot + ")", x -> x.restore(asked), NOT_POSSIBLE);
            same(() -> {
                CrankLayout x = rich();
                x.save(1 - asked);
                x.setCylinders(2);
                return x;
            }).after("restore(" + slot + ") beside the other", x -> x.restore(asked), NOT_POSSIBLE);
        }
        same(Make::one).after("restore(0) of one", x -> x.restore(0), NOT_POSSIBLE);
    }

    /** "The slot keeps it.": as often as it is asked for */
    static void promise30TheSlotKeepsIt() {
        CrankLayout x = rich();
        x.save(1);
        for (int i = 0; i < 5; i++) {
            becomeFour(x);
            DUE.is("restore(1)", x.restore(1), 8);
        }
        DUE.holds("as it was", Seen.shaft(x).equals(Seen.shaft(rich())));
    }

    /** "Makes everything ... as it was saved": the greatest behind the smallest, and back */
    static void promise30FromTheSmallestToTheGreatest() {
        CrankLayout x = rich();
        x.save(0);
        x.setCylinders(1);
        x.setStrokes(2);
        x.setThrow(0, 5);
        takeAllAway(x);
        x.save(1);
        DUE.is("restore(0)", x.restore(0), 8);
        DUE.holds("the greatest", Seen.shaft(x).equals(Seen.shaft(rich())));
        DUE.is("there is no room", x.setWeight(50, 5, 5), FULL);
        DUE.is("restore(1)", x.restore(1), 1);
        DUE.holds("the smallest", Seen.shaft(x).equals(Seen.shaft(poor())));
        DUE.is("there is room", x.setWeight(50, 5, 5), 1);
        DUE.is("two strokes", x.setStrokes(2), 2);
    }

    /** "everything": that nothing was chosen, too, and all were on */
    static void promise30DropsTheChoice() {
        CrankLayout x = Make.four();
        x.save(0);
        x.choose(1);
        x.turn(2, false);
        x.restore(0);
        DUE.is("cylinder(2, 4)", x.cylinder(2, 4), NONE);
        DUE.is("cylinder(2, 3)", x.cylinder(2, 3), 1);
        DUE.is("turn(2, false)", x.turn(2, false), NOT_POSSIBLE);
        DUE.is("orders()", x.orders(), 2);
    }

    /** "everything": the chosen firing, with all that is told of it */
    static void promise30BringsTheChoiceBack() {
        CrankLayout x = Make.firing(2, 8, 0, 4);
        x.choose(0);
        x.turn(0, false);
        x.save(0);
        x.setStrokes(4);
        x.setCylinders(8);
        x.restore(0);
        DUE.is("cylinder(0, 4)", x.cylinder(0, 4), 8);
        DUE.is("cylinder(2, 4)", x.cylinder(2, 4), 4);
        DUE.is("longestGap()", x.longestGap(), 8);
        DUE.is("peak(0)", x.peak(0), 0);
        DUE.is("load(3, 11)", x.load(3, 11), 0);
        DUE.is("load(3, 12)", x.load(3, 12), BAD_INDEX);
        DUE.is("turn(0, true)", x.turn(0, true), 3);
    }

    /** "everything except the text and the slots": these stay as they are */
    static void promise30KeepsTextAndSlots() {
        CrankLayout x = Make.full();
        x.append('-');
        DUE.is("restore(0)", x.restore(0), 3);
        DUE.is("faultPosition()", x.faultPosition(), 0);
        DUE.is("clearText()", x.clearText(), 16);
        DUE.is("restore(1)", x.restore(1), 5);
        DUE.is("clearText() of none", x.clearText(), 0);
        DUE.is("restore(0) again", x.restore(0), 3);
    }

    // ---- promise 31

    private static long sum(long... values) {
        long h = 137;
        for (long value : values) {
            h = 31 * h + value;
        }
        return h;
    }

    /** each value of a new object, in its order; without weights and a choice */
    static void promise31OfANewObject() {
        long want = sum(4, 0, 10, 0, 1, NONE, 0, 10, 10, 1, NONE, 0, 10, 20, 1, NONE, 0, 10, 30, 1, NONE,
            80, 0, 0, 0, 1200, 0, 0, 0, 80, 0, 0, 0, 1200, 0, 0, 0, 0, 1, 6040, 0, NONE);
        same(CrankLayout::new).after("checksum()", x -> x.checksum(), want);
    }

    /** "if a firing is chosen": the only cylinder, which is off, and on */
    static void promise31OfOne() {
        long off = sum(1, 1, 10, 0, 0, 11, 0, 10, 10, 0, 0, 0, 0, 0, 10, 0, 0, 10, 0, 0, 0, 0,
            10, 1, 7010, 1, 0, NONE, NONE, 0, 0);
        same(Make::one).after("checksum() of one that is off", x -> x.checksum(), off);
        long on = sum(1, 1, 10, 0, 1, 11, 0, 10, 10, 0, 0, 0, 0, 0, 10, 0, 0, 10, 0, 0, 0, 0,
            10, 1, 7010, 1, 0, 24, NONE, 8, 8);
        CrankLayout x = Make.one();
        x.turn(0, true);
        DUE.is("checksum() of one that is on", x.checksum(), on);
        long unchosen = sum(1, 1, 10, 0, 1, NONE, 0, 10, 10, 0, 0, 0, 0, 0, 10, 0, 0, 10, 0, 0, 0, 0,
            10, 1, 7010, 1, 0);
        x.setThrow(0, 1);
        DUE.is("checksum() of one that is not chosen", x.checksum(), unchosen);
    }

    /** everything there: eight cylinders, eight weights, and all bearings of the choice */
    static void promise31OfAFullOne() {
        long want = sum(8,
            0, 0, -99, 1, 0, 9, 11, -74, 1, 15, 3, 22, -49, 0, 21, 6, 33, -24, 1, 6,
            6, 44, 1, 1, 18, 3, 55, 26, 1, 9, 9, 66, 51, 0, 3, 0, 77, 76, 1, 12,
            -100, 0, 1, -100, 5, 6, -1, 11, 300, 0, 0, 20, 0, 6, 5, 3, 7, 7, 100, 10, 40, 100, 11, 999,
            72, 1286, -1300, -40, 17000, 100179, -104621, -4000, 0, 0, 0, 0, 4400, 0, 0, 0,
            4, 0, NONE, 8, 5, 6, 1, 8, 8, 8, 8, 8, 8, 8, 8, 8);
        same(Make::full).after("checksum()", x -> x.checksum(), want);
    }

    /** "and peak() of all bearings": the first, those between that differ, and the last */
    static void promise31OfDifferentPeaks() {
        // Two strokes; the slots are 0 2 4 6 8 10, and the cylinders 2, 4 and 5 are off.
        CrankLayout x = Make.firing(2, 0, 2, 4, 6, 8, 10);
        x.choose(0);
        x.turn(2, false);
        x.turn(4, false);
        x.turn(5, false);
        long want = sum(6,
            0, 10, 0, 1, 0, 10, 10, 10, 1, 2, 8, 10, 20, 0, 4,
            6, 10, 30, 1, 6, 4, 10, 40, 0, 8, 2, 10, 50, 0, 10,
            0, 0, 0, 0, -600, 0, 0, 600, 0, 0, 0, 0, -600, 0, 0, 200,
            5, 0, 0, 1, 0, 6, 1, 8, 10, 8, 8, 8, 0, 0);
        DUE.is("checksum()", x.checksum(), want);
    }

    /** the text and the slots are not among the values */
    static void promise31IsWithoutTextAndSlots() {
        CrankLayout x = rich();
        long h = x.checksum();
        Make.type(x, "1-2-3");
        DUE.is("with a text", x.checksum(), h);
        x.save(0);
        x.save(1);
        DUE.is("with slots", x.checksum(), h);
    }

    /** "Computes": asking changes nothing, and answers the same again */
    static void promise31OnlyAsks() {
        long h = rich().checksum();
        same(SlotsEdgesTest::rich).after("checksum()", x -> x.checksum(), h);
    }
}
