import java.util.function.Supplier;

/** The edges of the promises 15 to 19: a method for each sentence, which stands above it. */
public final class FiringEdgesTest {
    private static final int BAD_INDEX = -1000001;
    private static final int BAD_VALUE = -1000002;
    private static final int NONE = -1000005;
    private static final int LEAST = Integer.MIN_VALUE;
    private static final int MOST = Integer.MAX_VALUE;

    private static final Due DUE = new Due("FiringEdgesTest");

    public static void main(String[] args) throws Exception {
        Every.test(FiringEdgesTest.class, DUE);
    }

    private static Same same(Supplier<CrankLayout> state) {
        return new Same(DUE, state);
    }

    private static void orderIs(CrankLayout x, int order, int... want) {
        for (int place = 0; place < want.length; place++) {
            DUE.is("order(" + order + ", " + place + ")", x.order(order, place), want[place]);
        }
    }

    private static void slotsAre(CrankLayout x, int... want) {
        for (int k = 0; k < want.length; k++) {
            DUE.is("cylinder(" + k + ", 4)", x.cylinder(k, 4), want[k]);
        }
    }

    /** Six with two strokes, whose order is 0 3 5 2 4 1: only its ends are beside each other. */
    private static CrankLayout endsMeet() {
        return Make.firing(2, 0, 10, 6, 2, 8, 4);
    }

    // ---- promise 15

    /** "(so a firing of one cylinder is always even)" */
    static void promise15OneIsAlwaysEven() {
        for (int turn = 0; turn < 12; turn++) {
            DUE.is("four strokes", Make.shaft(turn).orders(), 1);
            DUE.is("two strokes", Make.twoStrokes(turn).orders(), 1);
        }
    }

    /** "and with 24 slots in that slot plus 12 as well" */
    static void promise15TheSlotPlus12WithFourStrokesAlone() {
        DUE.is("two at once with four strokes", Make.shaft(11, 11).orders(), 1);
        DUE.is("two at once with two strokes", Make.twoStrokes(11, 11).orders(), 0);
        DUE.is("two opposite with four strokes", Make.shaft(0, 6).orders(), 0);
        DUE.is("two opposite with two strokes", Make.twoStrokes(0, 6).orders(), 1);
    }

    /** "in slot (12 - t) modulo 12": the throw 0 is in slot 0 and not in slot 12 */
    static void promise15ThrowZeroIsInSlotZero() {
        CrankLayout x = Make.twoStrokes(0, 4, 8);
        DUE.is("choose(0)", x.choose(0), 0);
        slotsAre(x, 0, 8, 4);
        x = Make.twoStrokes(8, 0, 4);
        DUE.is("choose(0) of another", x.choose(0), 4);
        slotsAre(x, 4, 0, 8);
    }

    /** "there are n different slots" */
    static void promise15SlotsAreDifferent() {
        DUE.is("three at once", Make.shaft(0, 0, 0).orders(), 0);
        DUE.is("two of three at once", Make.shaft(0, 4, 4).orders(), 0);
        DUE.is("three of eight at once", Make.firing(4, 0, 3, 6, 9, 12, 15, 18, 12).orders(), 0);
        DUE.is("two of six at once", Make.firing(2, 0, 2, 4, 6, 8, 8).orders(), 0);
    }

    /** "the slots of the cycle divided by n is a whole number": 1, 2, 3, 4, 6 and 8 of 24 */
    static void promise15WholeNumbersOf24() {
        DUE.is("1", Make.firing(4, 23).orders(), 1);
        DUE.is("2", Make.firing(4, 0, 12).orders(), 1);
        DUE.is("3", Make.firing(4, 0, 8, 16).orders(), 1);
        DUE.is("4", Make.firing(4, 0, 6, 12, 18).orders(), 2);
        DUE.is("6", Make.firing(4, 0, 4, 8, 12, 16, 20).orders(), 4);
        DUE.is("8", Make.firing(4, 0, 3, 6, 9, 12, 15, 18, 21).orders(), 8);
    }

    /** "is a whole number": not with 5 and 7 of 24, though all but one follow by 4 or by 3 */
    static void promise15NoWholeNumbersOf24() {
        DUE.is("5 by 4", Make.firing(4, 0, 4, 8, 12, 16).orders(), 0);
        DUE.is("5 by 5", Make.firing(4, 0, 5, 10, 15, 20).orders(), 0);
        DUE.is("7 by 3", Make.firing(4, 0, 3, 6, 9, 12, 15, 18).orders(), 0);
        DUE.is("7 by 4", Make.firing(4, 0, 4, 8, 12, 16, 20, 0).orders(), 0);
    }

    /** "is a whole number": 1, 2, 3, 4 and 6 of 12 */
    static void promise15WholeNumbersOf12() {
        DUE.is("1", Make.firing(2, 11).orders(), 1);
        DUE.is("2", Make.firing(2, 0, 6).orders(), 1);
        DUE.is("3", Make.firing(2, 0, 4, 8).orders(), 1);
        DUE.is("4", Make.firing(2, 0, 3, 6, 9).orders(), 1);
        DUE.is("6", Make.firing(2, 0, 2, 4, 6, 8, 10).orders(), 1);
    }

    /** "is a whole number": not with 5, 7 and 8 of 12, though all but one follow by 2 or by 1 */
    static void promise15NoWholeNumbersOf12() {
        DUE.is("5 by 2", Make.firing(2, 0, 2, 4, 6, 8).orders(), 0);
        DUE.is("7 by 1", Make.firing(2, 0, 1, 2, 3, 4, 5, 6).orders(), 0);
        DUE.is("8 by 1", Make.firing(2, 0, 1, 2, 3, 4, 5, 6, 7).orders(), 0);
        DUE.is("8 by 3", Make.firing(2, 0, 3, 6, 9, 0, 3, 6, 9).orders(), 0);
    }

    /** "the slots follow each other by this number": one that is beside its slot is too much */
    static void promise15EachSlotCounts() {
        for (int k = 0; k < 6; k++) {
            for (int beside : new int[] {1, 11}) {
                int[] slots = {0, 4, 8, 12, 16, 20};
                slots[k] = (slots[k] + beside) % 12;
                DUE.is("cylinder " + k + " in " + slots[k], Make.firing(4, slots).orders(), 0);
                int[] two = {0, 2, 4, 6, 8, 10};
                two[k] = (two[k] + beside) % 12;
                DUE.is("cylinder " + k + " in " + two[k], Make.firing(2, two).orders(), 0);
            }
        }
    }

    /** "around the cycle": wherever the firing begins */
    static void promise15GoesAroundTheCycle() {
        for (int first = 0; first < 24; first++) {
            int[] eight = new int[8];
            int[] four = new int[4];
            for (int i = 0; i < 8; i++) {
                eight[i] = (first + 3 * i) % 24;
                four[i / 2] = (first + 3 * (i / 2)) % 12;
            }
            DUE.is("eight from " + first, Make.firing(4, eight).orders(), 8);
            DUE.is("four from " + first % 12, Make.firing(2, four).orders(), 1);
        }
    }

    /** "Returns the number of even firings with different orders": none, and the most */
    static void promise15NoneAndTheMost() {
        same(CrankLayout::new).after("none", x -> x.orders(), 0);
        same(Make::full).after("the most", x -> x.orders(), 8);
        same(Make::one).after("of one", x -> x.orders(), 1);
    }

    // ---- promise 16

    /** "the number of an order", "the place in the order, counted from 0": both ends */
    static void promise16TakesTheEnds() {
        CrankLayout x = Make.full();
        DUE.is("order(0, 0)", x.order(0, 0), 0);
        DUE.is("order(0, 7)", x.order(0, 7), 5);
        DUE.is("order(7, 0)", x.order(7, 0), 0);
        DUE.is("order(7, 7)", x.order(7, 7), 2);
        DUE.is("order(0, 0) of one", Make.one().order(0, 0), 0);
    }

    /** "the number of an order": what lies beside */
    static void promise16RefusesOtherOrders() {
        for (int order : new int[] {LEAST, -1, 8, 9, MOST}) {
            for (int place : new int[] {0, 7, 8, -1}) {
                String call = "order(" + order + ", " + place + ")";
                same(Make::full).after(call, x -> x.order(order, place), BAD_INDEX);
            }
        }
        same(Make::four).after("order(2, 0)", x -> x.order(2, 0), BAD_INDEX);
        same(Make::one).after("order(1, 0)", x -> x.order(1, 0), BAD_INDEX);
    }

    /** "the place in the order": what lies beside */
    static void promise16RefusesOtherPlaces() {
        for (int place : new int[] {LEAST, -1, 8, 9, MOST}) {
            for (int order : new int[] {0, 1, 6, 7}) {
                String call = "order(" + order + ", " + place + ")";
                same(Make::full).after(call, x -> x.order(order, place), BAD_INDEX);
            }
        }
        same(Make::four).after("order(0, 4)", x -> x.order(0, 4), BAD_INDEX);
        same(Make::one).after("order(0, 1)", x -> x.order(0, 1), BAD_INDEX);
    }

    /** "the number of an order": there is none if there are no orders */
    static void promise16RefusesAllIfThereAreNone() {
        same(CrankLayout::new)
            .after("order(0, 0)", x -> x.order(0, 0), BAD_INDEX)
            .after("order(0, 3)", x -> x.order(0, 3), BAD_INDEX);
    }

    /** "from cylinder 0 on, around the cycle": from the last slot to the first one */
    static void promise16GoesAroundFromCylinderZero() {
        orderIs(Make.firing(2, 11, 3, 7), 0, 0, 1, 2);
        orderIs(Make.firing(2, 11, 7, 3), 0, 0, 2, 1);
        orderIs(Make.firing(2, 10, 8, 6, 4, 2, 0), 0, 0, 5, 4, 3, 2, 1);
        orderIs(Make.firing(4, 16, 8, 0), 0, 0, 2, 1);
        orderIs(Make.firing(4, 23, 11), 0, 0, 1);
    }

    /** "numbered from 0 in the lexicographical order of their orders": the first to the last */
    static void promise16CountsLexicographically() {
        // Cylinder 0 goes with 4, then 3 and 5, 1 and 7, 2 and 6 go together.
        CrankLayout x = Make.firing(4, 9, 3, 6, 0, 21, 12, 18, 15);
        orderIs(x, 0, 0, 3, 1, 2, 4, 5, 7, 6);
        orderIs(x, 1, 0, 3, 1, 6, 4, 5, 7, 2);
        orderIs(x, 2, 0, 3, 7, 2, 4, 5, 1, 6);
        orderIs(x, 3, 0, 3, 7, 6, 4, 5, 1, 2);
        orderIs(x, 4, 0, 5, 1, 2, 4, 3, 7, 6);
        orderIs(x, 5, 0, 5, 1, 6, 4, 3, 7, 2);
        orderIs(x, 6, 0, 5, 7, 2, 4, 3, 1, 6);
        orderIs(x, 7, 0, 5, 7, 6, 4, 3, 1, 2);
    }

    /** "Returns the cylinder": asking changes nothing */
    static void promise16OnlyAsks() {
        same(Make::full).after("order(5, 3)", x -> x.order(5, 3), 5);
    }

    // ---- promise 17

    /** "the number of an order": both ends */
    static void promise17TakesTheEnds() {
        CrankLayout x = Make.full();
        // 0 1 3 2 7 6 4 5 and 0 6 4 5 7 1 3 2.
        DUE.is("orderCost(0, 0)", x.orderCost(0, 0), 4);
        DUE.is("orderCost(7, 0)", x.orderCost(7, 0), 2);
        DUE.is("orderCost(0, 1)", x.orderCost(0, 1), 9);
        DUE.is("orderCost(7, 1)", x.orderCost(7, 1), 9);
    }

    /** "the number of an order": what lies beside; "BAD_INDEX; BAD_VALUE" */
    static void promise17RefusesOtherOrders() {
        for (int what : new int[] {0, 1, -1, 2, LEAST, MOST}) {
            for (int order : new int[] {LEAST, -1, 8, 9, MOST}) {
                String call = "orderCost(" + order + ", " + what + ")";
                same(Make::full).after(call, x -> x.orderCost(order, what), BAD_INDEX);
            }
            same(Make::four).after("orderCost(2, ..)", x -> x.orderCost(2, what), BAD_INDEX);
            same(Make::one).after("orderCost(1, ..)", x -> x.orderCost(1, what), BAD_INDEX);
            same(CrankLayout::new).after("no orders", x -> x.orderCost(0, what), BAD_INDEX);
        }
    }

    /** "0 for its penalty, 1 for its peak": what lies beside */
    static void promise17RefusesOtherWhats() {
        for (int what : new int[] {LEAST, -1, 2, 3, MOST}) {
            same(Make::full)
                .after("orderCost(0, " + what + ")", x -> x.orderCost(0, what), BAD_VALUE)
                .after("orderCost(7, " + what + ")", x -> x.orderCost(7, what), BAD_VALUE);
            same(Make::one).after("of one", x -> x.orderCost(0, what), BAD_VALUE);
        }
    }

    /** "so 2 with two cylinders, and 0 with one" */
    static void promise17PenaltyOfOneAndTwo() {
        DUE.is("one", Make.shaft(0).orderCost(0, 0), 0);
        DUE.is("one with two strokes", Make.twoStrokes(11).orderCost(0, 0), 0);
        DUE.is("two", Make.shaft(0, 0).orderCost(0, 0), 2);
        DUE.is("two with two strokes", Make.twoStrokes(11, 5).orderCost(0, 0), 2);
    }

    /** "(the last one is followed by the first one)" */
    static void promise17PenaltyFromTheLastToTheFirst() {
        orderIs(endsMeet(), 0, 0, 3, 5, 2, 4, 1);
        DUE.is("the ends alone", endsMeet().orderCost(0, 0), 1);
    }

    /** "directly beside the one before it (their numbers differ by 1)": not the outer ones */
    static void promise17PenaltyIsNotForTheOuterOnes() {
        CrankLayout x = Make.firing(2, 0, 6, 2, 8, 4, 10);
        orderIs(x, 0, 0, 2, 4, 1, 3, 5);
        DUE.is("0 2 4 1 3 5", x.orderCost(0, 0), 0);
        DUE.is("0 1 2", Make.firing(2, 0, 4, 8).orderCost(0, 0), 2);
        DUE.is("0 2 1", Make.firing(2, 0, 8, 4).orderCost(0, 0), 2);
    }

    /** "differ by 1": up and down count alike */
    static void promise17PenaltyUpAndDown() {
        DUE.is("up", Make.firing(2, 0, 2, 4, 6, 8, 10).orderCost(0, 0), 5);
        DUE.is("down", Make.firing(2, 0, 10, 8, 6, 4, 2).orderCost(0, 0), 5);
        DUE.is("eight up", Make.firing(4, 0, 3, 6, 9, 12, 15, 18, 21).orderCost(0, 0), 7);
    }

    /** "The peak of a firing is the greatest load": around the cycle too */
    static void promise17PeakGoesAround() {
        // Cylinder 1 fires in slot 10, cylinder 0 in slot 0; no other neighbours are as near.
        DUE.is("2 slots apart", endsMeet().orderCost(0, 1), 8 + 2);
        // Cylinder 1 fires in slot 21, cylinder 0 in slot 0.
        CrankLayout x = Make.firing(4, 0, 21, 6, 15, 12, 18, 3, 9);
        int order = 0;
        while (order < 7 && (x.order(order, 1) != 6 || x.order(order, 2) != 2 || x.order(order, 3) != 7)) {
            order++;
        }
        orderIs(x, order, 0, 6, 2, 7, 4, 3, 5, 1);
        DUE.is("3 slots apart", x.orderCost(order, 1), 8 + 1);
    }

    /** "of a bearing": with one cylinder, with two, and with those far apart it is 8 */
    static void promise17PeakWithoutAnOverlap() {
        DUE.is("one", Make.shaft(1).orderCost(0, 1), 8);
        DUE.is("one with two strokes", Make.twoStrokes(1).orderCost(0, 1), 8);
        DUE.is("two", Make.shaft(1, 1).orderCost(0, 1), 8);
        DUE.is("4 slots apart", Make.firing(4, 0, 4, 8, 12, 16, 20).orderCost(0, 1), 8);
        DUE.is("no neighbours", Make.firing(2, 0, 6, 2, 8, 4, 10).orderCost(0, 1), 8);
    }

    /** "from both cylinders beside it": the first two, and the last two */
    static void promise17PeakAtTheEnds() {
        // The order 0 1 3 5 2 4, and its mirror image 5 4 2 0 3 1 from cylinder 0 on.
        DUE.is("bearing 1", Make.firing(2, 0, 2, 8, 4, 10, 6).orderCost(0, 1), 10);
        DUE.is("bearing 5", Make.firing(2, 6, 10, 4, 8, 2, 0).orderCost(0, 1), 10);
    }

    /** "with all cylinders on": also if none is */
    static void promise17PeakWithAllOn() {
        CrankLayout x = endsMeet();
        x.choose(0);
        for (int k = 0; k < 6; k++) {
            x.turn(k, false);
        }
        DUE.is("orderCost(0, 1)", x.orderCost(0, 1), 10);
        DUE.is("none is turned on", x.turn(0, false), 0);
    }

    /** "Returns this number": asking changes nothing */
    static void promise17OnlyAsks() {
        same(Make::full)
            .after("orderCost(5, 0)", x -> x.orderCost(5, 0), 0)
            .after("orderCost(5, 1)", x -> x.orderCost(5, 1), 8);
    }

    // ---- promise 18

    /** "NONE if there are no orders" */
    static void promise18TellsNone() {
        same(CrankLayout::new).after("four at once", x -> x.bestOrder(), NONE);
        same(() -> Make.firing(4, 0, 4, 8, 12, 16)).after("five", x -> x.bestOrder(), NONE);
        same(() -> Make.twoStrokes(0, 0)).after("two at once", x -> x.bestOrder(), NONE);
    }

    /** "Returns its number": of a single one it is 0 */
    static void promise18TellsTheOnlyOne() {
        same(Make::one).after("of one", x -> x.bestOrder(), 0);
        same(FiringEdgesTest::endsMeet).after("of six", x -> x.bestOrder(), 0);
    }

    /** "the order with the smallest peak": the only one with 8, between others and at the end */
    static void promise18TellsTheSmallestPeak() {
        CrankLayout between = Make.firing(4, 0, 6, 18, 9, 12, 3, 15, 21);
        costsAre(between, 0, 1, 1, 2, 0, 2, 2, 3, 1);
        costsAre(between, 1, 9, 9, 9, 8, 9, 9, 9, 9);
        DUE.is("bestOrder() between", between.bestOrder(), 3);
        CrankLayout last = Make.firing(4, 0, 12, 9, 21, 6, 18, 3, 15);
        costsAre(last, 1, 9, 9, 9, 9, 9, 9, 9, 8);
        DUE.is("bestOrder() at the end", last.bestOrder(), 7);
        CrankLayout first = Make.firing(4, 0, 12, 3, 15, 6, 18, 9, 21);
        costsAre(first, 1, 8, 9, 9, 9, 9, 9, 9, 9);
        DUE.is("bestOrder() at the beginning", first.bestOrder(), 0);
    }

    /** "of several the one with the smallest penalty": all have the same peak */
    static void promise18TellsTheSmallestPenalty() {
        CrankLayout between = Make.firing(4, 0, 12, 9, 3, 6, 15, 18, 21);
        costsAre(between, 0, 4, 2, 2, 2, 3, 1, 3, 3);
        costsAre(between, 1, 9, 9, 9, 9, 9, 9, 9, 9);
        DUE.is("bestOrder() between", between.bestOrder(), 5);
        CrankLayout last = Make.firing(4, 0, 3, 12, 15, 6, 18, 9, 21);
        costsAre(last, 0, 2, 3, 4, 3, 2, 3, 2, 1);
        costsAre(last, 1, 9, 9, 9, 9, 9, 9, 9, 9);
        DUE.is("bestOrder() at the end", last.bestOrder(), 7);
        CrankLayout six = Make.firing(4, 0, 4, 16, 12, 8, 20);
        costsAre(six, 0, 3, 2, 1, 0);
        costsAre(six, 1, 8, 8, 8, 8);
        DUE.is("bestOrder() of six", six.bestOrder(), 3);
    }

    /** "of several the one with the lowest number" */
    static void promise18TellsTheLowestNumber() {
        CrankLayout four = Make.four();
        costsAre(four, 0, 2, 2);
        costsAre(four, 1, 8, 8);
        DUE.is("bestOrder() of four", four.bestOrder(), 0);
        CrankLayout ends = Make.firing(4, 0, 12, 9, 3, 15, 6, 21, 18);
        costsAre(ends, 0, 2, 1, 3, 2, 3, 2, 2, 1);
        DUE.is("bestOrder() of 1 and 7", ends.bestOrder(), 1);
        CrankLayout last = Make.firing(4, 0, 3, 9, 21, 15, 6, 12, 18);
        costsAre(last, 0, 1, 1, 2, 2, 1, 1, 0, 0);
        costsAre(last, 1, 9, 9, 9, 9, 9, 9, 8, 8);
        DUE.is("bestOrder() of 6 and 7", last.bestOrder(), 6);
    }

    private static void costsAre(CrankLayout x, int what, int... want) {
        DUE.is("orders()", x.orders(), want.length);
        for (int order = 0; order < want.length; order++) {
            DUE.is("orderCost(" + order + ", " + what + ")", x.orderCost(order, what), want[order]);
        }
    }

    /** "with all cylinders on": also if some are off */
    static void promise18CountsThoseOff() {
        CrankLayout x = Make.four();
        x.choose(1);
        for (int k = 0; k < 4; k++) {
            x.turn(k, false);
        }
        DUE.is("bestOrder() of four", x.bestOrder(), 0);
        CrankLayout full = Make.full();
        full.choose(0);
        for (int k = 0; k < 8; k++) {
            full.turn(k, false);
        }
        DUE.is("bestOrder() of eight", full.bestOrder(), 5);
    }

    /** "Finds": none is chosen, nothing is changed */
    static void promise18OnlyAsks() {
        same(Make::full).after("bestOrder()", x -> x.bestOrder(), 5);
        same(Make::four).after("bestOrder()", x -> x.bestOrder(), 0);
    }

    // ---- promise 19

    /** "the number of an order": both ends */
    static void promise19TakesTheEnds() {
        CrankLayout x = Make.full();
        DUE.is("choose(0)", x.choose(0), 0);
        slotsAre(x, 0, 3, 9, 6, 18, 21, 15, 12);
        DUE.is("choose(7)", x.choose(7), 0);
        slotsAre(x, 0, 15, 21, 18, 6, 9, 3, 12);
    }

    /** "the number of an order": what lies beside; what was chosen stays */
    static void promise19RefusesOtherOrders() {
        for (int order : new int[] {LEAST, -1, 8, 9, MOST}) {
            String call = "choose(" + order + ")";
            same(Make::full).after(call, x -> x.choose(order), BAD_INDEX);
            same(Make::four).after(call, x -> x.choose(order), BAD_INDEX);
        }
        same(Make::four).after("choose(2) of two", x -> x.choose(2), BAD_INDEX);
        same(Make::one).after("choose(1) of one", x -> x.choose(1), BAD_INDEX);
    }

    /** "the number of an order": there is none if there are no orders */
    static void promise19RefusesAllIfThereAreNone() {
        same(CrankLayout::new).after("choose(0)", x -> x.choose(0), BAD_INDEX);
        same(() -> Make.twoStrokes(0, 0)).after("choose(0) of two", x -> x.choose(0), BAD_INDEX);
    }

    /** "in which cylinder 0 fires in the lower slot", "Returns the slot": 0 to 11 */
    static void promise19TellsTheLowerSlot() {
        for (int turn = 0; turn < 12; turn++) {
            int slot = turn == 0 ? 0 : 12 - turn;
            DUE.is("one", Make.shaft(turn).choose(0), slot);
            DUE.is("one with two strokes", Make.twoStrokes(turn).choose(0), slot);
            CrankLayout two = Make.shaft(turn, turn);
            DUE.is("two", two.choose(0), slot);
            slotsAre(two, slot, slot + 12);
        }
    }

    /** "around the cycle": the slots of the others go beyond the last one */
    static void promise19SlotsGoAround() {
        CrankLayout x = Make.firing(4, 11, 19, 3);
        DUE.is("choose(0)", x.choose(0), 11);
        slotsAre(x, 11, 19, 3);
        x = Make.firing(2, 10, 0, 2, 4, 6, 8);
        DUE.is("choose(0) with two strokes", x.choose(0), 10);
        slotsAre(x, 10, 0, 2, 4, 6, 8);
        x = Make.firing(4, 20, 23, 2, 5, 8, 11, 14, 17);
        DUE.is("choose(0) of eight", x.choose(0), 8);
        slotsAre(x, 8, 11, 14, 17, 20, 23, 2, 5);
    }

    /** "(Cylinders that are off stay off.)": all of them too */
    static void promise19KeepsThoseOff() {
        CrankLayout x = Make.full();
        x.choose(0);
        for (int k = 0; k < 8; k++) {
            DUE.is("cylinder(" + k + ", 3)", x.cylinder(k, 3), k == 2 || k == 6 ? 0 : 1);
            x.turn(k, false);
        }
        x.choose(1);
        DUE.is("turn(0, true)", x.turn(0, true), 1);
        CrankLayout one = Make.one();
        DUE.is("the same again", one.choose(0), 11);
        DUE.is("it stays off", one.cylinder(0, 3), 0);
    }

    /** "Chooses the firing of an order": nothing else is changed, and the same one stays */
    static void promise19KeepsTheRest() {
        same(Make::full).after("choose(5)", x -> x.choose(5), 0);
        same(Make::one).after("choose(0)", x -> x.choose(0), 11);
    }
}
