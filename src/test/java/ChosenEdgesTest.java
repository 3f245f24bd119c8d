import java.util.function.Supplier;

/** The edges of the promises 24 to 28: a method for each sentence, which stands above it. */
public final class ChosenEdgesTest {
    private static final int BAD_INDEX = -1000001;
    private static final int NOT_POSSIBLE = -1000003;
    private static final int NONE = -1000005;
    private static final int LEAST = Integer.MIN_VALUE;
    private static final int MOST = Integer.MAX_VALUE;

    private static final Due DUE = new Due("ChosenEdgesTest");

    public static void main(String[] args) throws Exception {
        Every.test(ChosenEdgesTest.class, DUE);
    }

    private static Same same(Supplier<CrankLayout> state) {
        return new Same(DUE, state);
    }

    /** The first order is chosen, and these cylinders are off. */
    private static CrankLayout without(CrankLayout x, int... off) {
        x.choose(0);
        for (int k : off) {
            x.turn(k, false);
        }
        return x;
    }

    /** The slots are 0 for cylinder 0, 6 for 1, 18 for 2, 12 for 3. */
    private static CrankLayout four(int... off) {
        return without(Make.four(), off);
    }

    /** With two strokes; the slots are 0 2 4 6 8 10. */
    private static CrankLayout six(int... off) {
        return without(Make.firing(2, 0, 2, 4, 6, 8, 10), off);
    }

    /** The slots are 0 3 6 and so on to 21. */
    private static CrankLayout eight(int... off) {
        return without(Make.firing(4, 0, 3, 6, 9, 12, 15, 18, 21), off);
    }

    /** Three cylinders with a choice, which is dropped. */
    private static CrankLayout dropped() {
        CrankLayout x = without(Make.shaft(0, 4, 8), 1);
        x.setStrokes(4);
        return x;
    }

    // ---- promise 24

    /** "a cylinder": 0 to n - 1 */
    static void promise24TakesTheEnds() {
        CrankLayout x = eight();
        DUE.is("turn(0, false)", x.turn(0, false), 7);
        DUE.is("turn(7, false)", x.turn(7, false), 6);
        for (int k = 0; k < 8; k++) {
            DUE.is("cylinder(" + k + ", 3)", x.cylinder(k, 3), k == 0 || k == 7 ? 0 : 1);
        }
        DUE.is("turn(0, true)", x.turn(0, true), 7);
        DUE.is("turn(7, true)", x.turn(7, true), 8);
    }

    /** "a cylinder": what lies beside; "BAD_INDEX; NOT_POSSIBLE" */
    static void promise24RefusesOtherCylinders() {
        for (int k : new int[] {LEAST, -1, 8, 9, 31, 32, MOST}) {
            for (boolean on : new boolean[] {false, true}) {
                String call = "turn(" + k + ", " + on + ")";
                same(Make::full).after(call, x -> x.turn(k, on), BAD_INDEX);
                same(Make::one).after(call, x -> x.turn(k, on), BAD_INDEX);
                same(CrankLayout::new).after(call, x -> x.turn(k, on), BAD_INDEX);
            }
        }
        same(Make::one).after("turn(1, true)", x -> x.turn(1, true), BAD_INDEX);
        same(() -> four(2)).after("turn(4, false)", x -> x.turn(4, false), BAD_INDEX);
        same(CrankLayout::new).after("turn(4, false) of none", x -> x.turn(4, false), BAD_INDEX);
    }

    /** "NOT_POSSIBLE if no firing is chosen": on and off, at first and when it is dropped */
    static void promise24NeedsAChoice() {
        for (boolean on : new boolean[] {false, true}) {
            same(CrankLayout::new)
                .after("turn(0, " + on + ")", x -> x.turn(0, on), NOT_POSSIBLE)
                .after("turn(3, " + on + ")", x -> x.turn(3, on), NOT_POSSIBLE);
            same(ChosenEdgesTest::dropped).after("dropped", x -> x.turn(1, on), NOT_POSSIBLE);
        }
    }

    /** "Returns the number of cylinders that are on then": from all to none and back */
    static void promise24CountsFromAllToNone() {
        CrankLayout x = eight();
        for (int k = 7; k >= 0; k--) {
            DUE.is("off " + k, x.turn(k, false), k);
        }
        for (int k = 7; k >= 0; k--) {
            DUE.is("on " + k, x.turn(k, true), 8 - k);
        }
        DUE.is("one", Make.one().turn(0, true), 1);
    }

    /** "whether it is on from now on": what it is already, it stays */
    static void promise24TurnsTwice() {
        same(Make::full)
            .after("off already", x -> x.turn(2, false), 6)
            .after("on already", x -> x.turn(7, true), 6);
        same(Make::one).after("the only one is off already", x -> x.turn(0, false), 0);
    }

    /** it turns the cylinder, and nothing else: the slots stay, with none on too */
    static void promise24KeepsTheRest() {
        CrankLayout x = four(0, 1, 2, 3);
        int[] slots = {0, 6, 18, 12};
        for (int k = 0; k < 4; k++) {
            DUE.is("cylinder(" + k + ", 4)", x.cylinder(k, 4), slots[k]);
        }
        DUE.is("orders()", x.orders(), 2);
    }

    // ---- promise 25

    /** "NOT_POSSIBLE if no firing is chosen" */
    static void promise25NeedsAChoice() {
        same(CrankLayout::new).after("longestGap()", x -> x.longestGap(), NOT_POSSIBLE);
        same(() -> Make.shaft(5)).after("of one", x -> x.longestGap(), NOT_POSSIBLE);
        same(ChosenEdgesTest::dropped).after("dropped", x -> x.longestGap(), NOT_POSSIBLE);
    }

    /** "NONE if no cylinder is on" */
    static void promise25NeedsACylinder() {
        same(Make::one).after("of one", x -> x.longestGap(), NONE);
        same(() -> four(0, 1, 2, 3)).after("of four", x -> x.longestGap(), NONE);
        same(() -> six(0, 1, 2, 3, 4, 5)).after("of six", x -> x.longestGap(), NONE);
    }

    /** "(the whole cycle, if just one is on)": whichever it is */
    static void promise25OfOneIsTheWholeCycle() {
        for (int one = 0; one < 6; one++) {
            CrankLayout x = six(0, 1, 2, 3, 4, 5);
            x.turn(one, true);
            DUE.is("just " + one + " of six", x.longestGap(), 12);
        }
        for (int one = 0; one < 8; one++) {
            CrankLayout x = eight(0, 1, 2, 3, 4, 5, 6, 7);
            x.turn(one, true);
            DUE.is("just " + one + " of eight", x.longestGap(), 24);
        }
        DUE.is("the only one", without(Make.shaft(11)).longestGap(), 24);
        DUE.is("the only one with two strokes", without(Make.twoStrokes(11)).longestGap(), 12);
    }

    /** all are on */
    static void promise25OfAllIsTheirDistance() {
        DUE.is("two", without(Make.shaft(1, 1)).longestGap(), 12);
        DUE.is("two with two strokes", without(Make.twoStrokes(1, 7)).longestGap(), 6);
        DUE.is("three", without(Make.shaft(0, 4, 8)).longestGap(), 8);
        DUE.is("four", four().longestGap(), 6);
        DUE.is("six", six().longestGap(), 2);
        DUE.is("eight", eight().longestGap(), 3);
    }

    /** "around the cycle": the longest one goes from the last slot to the first one */
    static void promise25GoesAround() {
        DUE.is("6 to 18", four(0).longestGap(), 12);
        DUE.is("0 to 12", four(2).longestGap(), 12);
        DUE.is("6 and 12", four(0, 2).longestGap(), 18);
        DUE.is("0 and 6", four(2, 3).longestGap(), 18);
        DUE.is("2 and 4 of 12", six(0, 3, 4, 5).longestGap(), 10);
        DUE.is("0 to 18 without 21", eight(7).longestGap(), 6);
        DUE.is("3 to 21 without 0", eight(0).longestGap(), 6);
        DUE.is("3 to 18", eight(0, 7).longestGap(), 9);
    }

    /** "the greatest number": it does not go around, and others do */
    static void promise25GoesNotAround() {
        DUE.is("0 and 18", four(1, 3).longestGap(), 18);
        DUE.is("0 and 10 of 12", six(1, 2, 3, 4).longestGap(), 10);
        DUE.is("0, 9 and 21", eight(1, 2, 4, 5, 6).longestGap(), 12);
        DUE.is("opposite ones", four(1, 2).longestGap(), 12);
    }

    /** "Returns the greatest number": asking changes nothing */
    static void promise25OnlyAsks() {
        same(Make::full).after("longestGap()", x -> x.longestGap(), 6);
    }

    // ---- promise 26

    /** "a bearing": 0 to n; "0 to the slots of the cycle - 1" */
    static void promise26TakesTheEnds() {
        CrankLayout x = eight();
        DUE.is("load(0, 0)", x.load(0, 0), 8);
        DUE.is("load(0, 23)", x.load(0, 23), 0);
        DUE.is("load(8, 0)", x.load(8, 0), 1);
        DUE.is("load(8, 23)", x.load(8, 23), 2);
        CrankLayout two = six();
        DUE.is("load(6, 11)", two.load(6, 11), 4);
        DUE.is("load(0, 11)", two.load(0, 11), 0);
    }

    /** "a bearing": what lies beside; "BAD_INDEX for both; NOT_POSSIBLE" */
    static void promise26RefusesOtherBearings() {
        for (int slot : new int[] {0, 23, 24, -1}) {
            for (int bearing : new int[] {LEAST, -1, 9, 10, MOST}) {
                refusesLoad(Make::full, bearing, slot);
                refusesLoad(Make::one, bearing, slot);
                refusesLoad(CrankLayout::new, bearing, slot);
            }
            refusesLoad(Make::one, 2, slot);
            refusesLoad(CrankLayout::new, 5, slot);
        }
    }

    /** "0 to the slots of the cycle - 1": what lies beside; "BAD_INDEX for both; NOT_POSSIBLE" */
    static void promise26RefusesOtherSlots() {
        for (int slot : new int[] {LEAST, -1, 24, 25, MOST}) {
            for (int bearing : new int[] {0, 1}) {
                refusesLoad(Make::full, bearing, slot);
                refusesLoad(Make::one, bearing, slot);
                refusesLoad(CrankLayout::new, bearing, slot);
                refusesLoad(() -> six(1), bearing, slot);
            }
        }
        for (int slot : new int[] {12, 23}) {
            refusesLoad(() -> six(1), 6, slot);
            refusesLoad(() -> Make.twoStrokes(0, 0), 2, slot);
        }
    }

    private static void refusesLoad(Supplier<CrankLayout> state, int bearing, int slot) {
        same(state).after("load(" + bearing + ", " + slot + ")", x -> x.load(bearing, slot), BAD_INDEX);
    }

    /** "NOT_POSSIBLE if no firing is chosen" */
    static void promise26NeedsAChoice() {
        same(CrankLayout::new)
            .after("load(0, 0)", x -> x.load(0, 0), NOT_POSSIBLE)
            .after("load(4, 23)", x -> x.load(4, 23), NOT_POSSIBLE);
        same(ChosenEdgesTest::dropped).after("dropped", x -> x.load(0, 0), NOT_POSSIBLE);
        same(() -> Make.twoStrokes(0, 6)).after("two", x -> x.load(2, 11), NOT_POSSIBLE);
    }

    /** "the loads 8, 4, 2 and 1 in the slots s, s + 1, s + 2 and s + 3": nothing beside them */
    static void promise26LoadsOfFourSlots() {
        int[] want = {0, 0, 0, 0, 8, 4, 2, 1, 0, 0, 0, 0};
        CrankLayout x = without(Make.twoStrokes(8));
        for (int slot = 0; slot < 12; slot++) {
            DUE.is("load(0, " + slot + ")", x.load(0, slot), want[slot]);
            DUE.is("load(1, " + slot + ")", x.load(1, slot), want[slot]);
        }
    }

    /** "(modulo the cycle)": from the last slots to the first ones, with two strokes */
    static void promise26LoadsGoAroundTwoStrokes() {
        int[] loads = {8, 4, 2, 1, 0, 0, 0, 0, 0, 0, 0, 0};
        for (int fires = 8; fires < 12; fires++) {
            CrankLayout x = without(Make.twoStrokes(12 - fires));
            for (int slot = 0; slot < 12; slot++) {
                int since = slot < fires ? slot - fires + 12 : slot - fires;
                DUE.is(fires + ": load(1, " + slot + ")", x.load(1, slot), loads[since]);
            }
        }
    }

    /** "(modulo the cycle)": from the last slots to the first ones, with four strokes */
    static void promise26LoadsGoAroundFourStrokes() {
        int[] loads = {8, 4, 2, 1, 0, 0, 0, 0};
        for (int fires = 20; fires < 24; fires++) {
            CrankLayout x = without(Make.shaft(24 - fires, 24 - fires));
            for (int slot = 0; slot < 24; slot++) {
                int since = slot < 12 ? slot - fires + 24 : slot - fires;
                int want = since < 0 || since > 7 ? 0 : loads[since];
                DUE.is(fires + ": load(2, " + slot + ")", x.load(2, slot), want);
            }
        }
    }

    /** "from both cylinders beside it (one for the first and the last bearing)" */
    static void promise26SumsOfBothBeside() {
        CrankLayout x = six();
        int[][] want = {
            {8, 4, 2, 1, 0, 0, 0, 0, 0, 0, 0, 0},
            {8, 4, 10, 5, 2, 1, 0, 0, 0, 0, 0, 0},
            {0, 0, 8, 4, 10, 5, 2, 1, 0, 0, 0, 0},
            {0, 0, 0, 0, 8, 4, 10, 5, 2, 1, 0, 0},
            {0, 0, 0, 0, 0, 0, 8, 4, 10, 5, 2, 1},
            {2, 1, 0, 0, 0, 0, 0, 0, 8, 4, 10, 5},
            {2, 1, 0, 0, 0, 0, 0, 0, 0, 0, 8, 4}};
        for (int bearing = 0; bearing <= 6; bearing++) {
            for (int slot = 0; slot < 12; slot++) {
                DUE.is("load(" + bearing + ", " + slot + ")", x.load(bearing, slot), want[bearing][slot]);
            }
        }
    }

    /** "Cylinders that are off give no loads.": one, the other, both, at the ends */
    static void promise26NothingFromThoseOff() {
        int[][] bearingOne = {{8, 4, 10, 5}, {0, 0, 8, 4}, {8, 4, 2, 1}, {0, 0, 0, 0}};
        CrankLayout[] states = {six(), six(0), six(1), six(0, 1)};
        for (int i = 0; i < states.length; i++) {
            for (int slot = 0; slot < 4; slot++) {
                DUE.is("load(1, " + slot + ")", states[i].load(1, slot), bearingOne[i][slot]);
            }
            DUE.is("load(0, 0)", states[i].load(0, 0), i % 2 == 0 ? 8 : 0);
        }
        CrankLayout last = six(5);
        DUE.is("load(6, 10)", last.load(6, 10), 0);
        DUE.is("load(5, 10)", last.load(5, 10), 2);
        last.turn(5, true);
        DUE.is("load(6, 10) when it is on", last.load(6, 10), 8);
    }

    /** "Returns its load": asking changes nothing */
    static void promise26OnlyAsks() {
        same(Make::full)
            .after("load(1, 0)", x -> x.load(1, 0), 8)
            .after("load(2, 21)", x -> x.load(2, 21), 0);
    }

    // ---- promise 27

    /** "a bearing": 0 to n */
    static void promise27TakesTheEnds() {
        int[] want = {8, 9, 9, 9, 9, 9, 9, 9, 8};
        for (int bearing = 0; bearing <= 8; bearing++) {
            DUE.is("peak(" + bearing + ")", eight().peak(bearing), want[bearing]);
        }
        CrankLayout one = without(Make.shaft(1));
        DUE.is("peak(0) of one", one.peak(0), 8);
        DUE.is("peak(1) of one", one.peak(1), 8);
    }

    /** "a bearing": what lies beside; "BAD_INDEX; NOT_POSSIBLE" */
    static void promise27RefusesOtherBearings() {
        for (int bearing : new int[] {LEAST, -1, 9, 10, MOST}) {
            String call = "peak(" + bearing + ")";
            same(Make::full).after(call, x -> x.peak(bearing), BAD_INDEX);
            same(Make::one).after(call, x -> x.peak(bearing), BAD_INDEX);
            same(CrankLayout::new).after(call, x -> x.peak(bearing), BAD_INDEX);
        }
        same(Make::one).after("peak(2)", x -> x.peak(2), BAD_INDEX);
        same(CrankLayout::new).after("peak(5)", x -> x.peak(5), BAD_INDEX);
    }

    /** "NOT_POSSIBLE if no firing is chosen" */
    static void promise27NeedsAChoice() {
        same(CrankLayout::new)
            .after("peak(0)", x -> x.peak(0), NOT_POSSIBLE)
            .after("peak(4)", x -> x.peak(4), NOT_POSSIBLE);
        same(ChosenEdgesTest::dropped).after("dropped", x -> x.peak(0), NOT_POSSIBLE);
    }

    /** "its greatest load in a slot": where the loads go around the cycle, at either bearing end */
    static void promise27GoesAround() {
        // Cylinder 0 fires in slot 0, cylinder 1 in slot 10: only they follow each other.
        CrankLayout x = without(Make.firing(2, 0, 10, 6, 2, 8, 4));
        int[] want = {8, 10, 8, 8, 8, 8, 8};
        for (int bearing = 0; bearing <= 6; bearing++) {
            DUE.is("peak(" + bearing + ")", x.peak(bearing), want[bearing]);
        }
        // Here the last two do, in the slots 10 and 0.
        CrankLayout last = without(Make.firing(2, 4, 8, 2, 6, 10, 0));
        DUE.is("peak(5) of the last", last.peak(5), 10);
        DUE.is("peak(1) of the last", last.peak(1), 8);
    }

    /** "Cylinders that are off give no loads.": one beside it, both, all */
    static void promise27NothingFromThoseOff() {
        int[][] off = {{0}, {1}, {0, 1}, {7}, {6, 7}, {0, 1, 2, 3, 4, 5, 6, 7}};
        int[][] want = {
            {0, 8, 9, 9, 9, 9, 9, 9, 8}, {8, 8, 8, 9, 9, 9, 9, 9, 8}, {0, 0, 8, 9, 9, 9, 9, 9, 8},
            {8, 9, 9, 9, 9, 9, 9, 8, 0}, {8, 9, 9, 9, 9, 9, 8, 0, 0}, {0, 0, 0, 0, 0, 0, 0, 0, 0}};
        for (int i = 0; i < off.length; i++) {
            CrankLayout x = eight(off[i]);
            for (int bearing = 0; bearing <= 8; bearing++) {
                DUE.is(i + ": peak(" + bearing + ")", x.peak(bearing), want[i][bearing]);
            }
        }
    }

    /** "Returns its greatest load": asking changes nothing */
    static void promise27OnlyAsks() {
        same(Make::full).after("peak(3)", x -> x.peak(3), 8);
        same(Make::one).after("peak(1)", x -> x.peak(1), 0);
    }

    // ---- promise 28

    /** "NOT_POSSIBLE if no firing is chosen; NONE": also with one cylinder */
    static void promise28NeedsAChoice() {
        same(CrankLayout::new).after("bestOff()", x -> x.bestOff(), NOT_POSSIBLE);
        same(() -> Make.shaft(5)).after("of one", x -> x.bestOff(), NOT_POSSIBLE);
        same(ChosenEdgesTest::dropped).after("dropped", x -> x.bestOff(), NOT_POSSIBLE);
    }

    /** "NONE if fewer than two cylinders are on": one, or none */
    static void promise28NeedsTwo() {
        same(Make::one).after("the only one is off", x -> x.bestOff(), NONE);
        same(() -> without(Make.shaft(1))).after("the only one is on", x -> x.bestOff(), NONE);
        same(() -> four(0, 1, 2, 3)).after("none", x -> x.bestOff(), NONE);
        for (int one = 0; one < 4; one++) {
            int on = one;
            same(() -> {
                CrankLayout x = four(0, 1, 2, 3);
                x.turn(on, true);
                return x;
            }).after("just " + one, x -> x.bestOff(), NONE);
        }
    }

    /** "fewer than two": with two it is the lower one, for the gap is the whole cycle then */
    static void promise28OfTwoIsTheLower() {
        for (int low = 0; low < 4; low++) {
            for (int high = low + 1; high < 4; high++) {
                CrankLayout x = four(0, 1, 2, 3);
                x.turn(low, true);
                x.turn(high, true);
                DUE.is(low + " and " + high, x.bestOff(), low);
            }
        }
        DUE.is("two", without(Make.shaft(1, 1)).bestOff(), 0);
    }

    /** "of several the lowest one": all are alike */
    static void promise28OfAllIsTheLowest() {
        DUE.is("four", four().bestOff(), 0);
        DUE.is("six", six().bestOff(), 0);
        DUE.is("eight", eight().bestOff(), 0);
        DUE.is("three", without(Make.shaft(0, 4, 8)).bestOff(), 0);
    }

    /** "besides those that are off": these are not told, and their slots are empty */
    static void promise28GoesOnFromThoseOff() {
        // The slots are 0 15 21 6 18 9 3 12, and 21 and 3 are empty.
        CrankLayout x = Make.full();
        int[] told = {1, 5, 0, 7, 3};
        int[] gaps = {6, 6, 12, 12, 24};
        for (int i = 0; i < told.length; i++) {
            DUE.is("bestOff() " + i, x.bestOff(), told[i]);
            x.turn(told[i], false);
            DUE.is("longestGap() then " + i, x.longestGap(), gaps[i]);
        }
        DUE.is("bestOff() at last", x.bestOff(), NONE);
    }

    /** "the one for which the longest gap is smallest then": where it goes around the cycle */
    static void promise28GoesAround() {
        DUE.is("between 18 and 6 around", four(3).bestOff(), 0);
        DUE.is("between 12 and 0 around", four(1).bestOff(), 2);
        DUE.is("the last one", four(0).bestOff(), 3);
        DUE.is("the first one of 21, 0 and 3", eight(2, 3, 4, 5, 6).bestOff(), 0);
        DUE.is("the last one of 18, 21 and 0", eight(1, 2, 3, 4, 5).bestOff(), 7);
    }

    /** "Finds": it is not turned off, nothing is changed */
    static void promise28OnlyAsks() {
        same(Make::full).after("bestOff()", x -> x.bestOff(), 1);
        same(() -> four(0)).after("bestOff() of four", x -> x.bestOff(), 3);
    }
}
