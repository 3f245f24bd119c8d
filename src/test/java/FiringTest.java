/** Promises 15 to 19: orders, what they cost, and the choice of one. */
public final class FiringTest {
    private static final int BAD_INDEX = -1000001;
    private static final int BAD_VALUE = -1000002;
    private static final int NONE = -1000005;

    private static final Due DUE = new Due("FiringTest");

    public static void main(String[] args) {
        promise15FourStrokes();
        promise15TwoStrokes();
        promise16();
        promise17();
        promise18();
        promise19();
        DUE.end();
    }

    private static int ordersWithTwoStrokes(int... turns) {
        CrankLayout x = Make.shaft(turns);
        x.setStrokes(2);
        return x.orders();
    }

    private static void promise15FourStrokes() {
        DUE.is("one", Make.shaft(7).orders(), 1);
        DUE.is("two at once", Make.shaft(7, 7).orders(), 1);
        DUE.is("two opposite", Make.shaft(1, 7).orders(), 0);
        DUE.is("three", Make.shaft(0, 4, 8).orders(), 1);
        DUE.is("three at once", Make.shaft(0, 0, 0).orders(), 0);
        DUE.is("four at once", new CrankLayout().orders(), 0);
        DUE.is("four", Make.four().orders(), 2);
        DUE.is("four, all different", Make.shaft(0, 3, 6, 9).orders(), 0);
        DUE.is("five", Make.shaft(0, 2, 4, 7, 9).orders(), 0);
        DUE.is("six", Make.shaft(0, 4, 8, 8, 4, 0).orders(), 4);
        DUE.is("six, all different", Make.shaft(0, 2, 4, 6, 8, 10).orders(), 0);
        DUE.is("seven", Make.shaft(0, 2, 4, 6, 8, 10, 11).orders(), 0);
        DUE.is("eight", Make.eight().orders(), 8);
        DUE.is("eight with three alike", Make.shaft(0, 9, 3, 6, 6, 3, 0, 0).orders(), 0);
    }

    private static void promise15TwoStrokes() {
        DUE.is("one", ordersWithTwoStrokes(7), 1);
        DUE.is("two at once", ordersWithTwoStrokes(7, 7), 0);
        DUE.is("two opposite", ordersWithTwoStrokes(1, 7), 1);
        DUE.is("three", ordersWithTwoStrokes(0, 8, 4), 1);
        DUE.is("four", ordersWithTwoStrokes(0, 6, 6, 0), 0);
        DUE.is("four, all different", ordersWithTwoStrokes(1, 10, 4, 7), 1);
        DUE.is("six, all different", ordersWithTwoStrokes(0, 2, 4, 6, 8, 10), 1);
        DUE.is("five", ordersWithTwoStrokes(0, 2, 4, 7, 9), 0);
        DUE.is("eight", ordersWithTwoStrokes(0, 9, 3, 6, 6, 3, 9, 0), 0);
    }

    private static void orderIs(CrankLayout x, int order, int... want) {
        for (int place = 0; place < want.length; place++) {
            DUE.is("order(" + order + ", " + place + ")", x.order(order, place), want[place]);
        }
        DUE.is("no further place", x.order(order, want.length), BAD_INDEX);
    }

    private static void promise16() {
        CrankLayout four = Make.four();
        orderIs(four, 0, 0, 1, 3, 2);
        orderIs(four, 1, 0, 2, 3, 1);
        DUE.is("order(2, 0)", four.order(2, 0), BAD_INDEX);
        DUE.is("order(-1, 0)", four.order(-1, 0), BAD_INDEX);
        DUE.is("order(0, -1)", four.order(0, -1), BAD_INDEX);
        DUE.is("order(0, 4)", four.order(0, 4), BAD_INDEX);
        // The slots are 0 and 12, then 4 and 16, then 8 and 20.
        CrankLayout six = Make.shaft(0, 8, 4, 4, 8, 0);
        orderIs(six, 0, 0, 1, 2, 5, 4, 3);
        orderIs(six, 1, 0, 1, 3, 5, 4, 2);
        orderIs(six, 2, 0, 4, 2, 5, 1, 3);
        orderIs(six, 3, 0, 4, 3, 5, 1, 2);
        // Cylinder 0 is not in slot 0: the order begins with it all the same.
        CrankLayout late = Make.shaft(4, 0, 8);
        orderIs(late, 0, 0, 2, 1);
        CrankLayout eight = Make.eight();
        orderIs(eight, 0, 0, 1, 3, 2, 7, 6, 4, 5);
        orderIs(eight, 1, 0, 1, 3, 5, 7, 6, 4, 2);
        orderIs(eight, 2, 0, 1, 4, 2, 7, 6, 3, 5);
        orderIs(eight, 3, 0, 1, 4, 5, 7, 6, 3, 2);
        orderIs(eight, 4, 0, 6, 3, 2, 7, 1, 4, 5);
        orderIs(eight, 7, 0, 6, 4, 5, 7, 1, 3, 2);
        orderIs(Make.shaft(3), 0, 0);
        DUE.is("no orders", new CrankLayout().order(0, 0), BAD_INDEX);
    }

    private static void promise17() {
        CrankLayout four = Make.four();
        DUE.is("penalty of 0 1 3 2", four.orderCost(0, 0), 2);
        DUE.is("penalty of 0 2 3 1", four.orderCost(1, 0), 2);
        DUE.is("peak of 0 1 3 2", four.orderCost(0, 1), 8);
        DUE.is("orderCost(2, 2)", four.orderCost(2, 2), BAD_INDEX);
        DUE.is("orderCost(-1, 0)", four.orderCost(-1, 0), BAD_INDEX);
        DUE.is("orderCost(0, 2)", four.orderCost(0, 2), BAD_VALUE);
        DUE.is("orderCost(0, -1)", four.orderCost(0, -1), BAD_VALUE);
        four.choose(0);
        for (int i = 0; i < 4; i++) {
            four.turn(i, false);
        }
        DUE.is("peak with all on though all are off", four.orderCost(0, 1), 8);
        DUE.is("penalty of one", Make.shaft(3).orderCost(0, 0), 0);
        DUE.is("peak of one", Make.shaft(3).orderCost(0, 1), 8);
        DUE.is("penalty of two", Make.shaft(3, 3).orderCost(0, 0), 2);
        DUE.is("penalty of three", Make.shaft(0, 4, 8).orderCost(0, 0), 2);
        CrankLayout eight = Make.eight();
        // 0 1 3 2 7 6 4 5: beside each other are 0 1, 3 2, 7 6 and 4 5; the slots are 3 apart.
        DUE.is("penalty of eight", eight.orderCost(0, 0), 4);
        DUE.is("peak of eight", eight.orderCost(0, 1), 8 + 1);
        // 0 6 3 2 7 1 4 5: beside each other are 3 2 and 4 5.
        DUE.is("penalty of another", eight.orderCost(4, 0), 2);
        DUE.is("peak of another", eight.orderCost(4, 1), 9);
        CrankLayout six = Make.shaft(0, 2, 4, 6, 8, 10);
        six.setStrokes(2);
        // 0 5 4 3 2 1, two slots apart: 8 in the slot of one and 2 of the one before it.
        DUE.is("penalty of a row", six.orderCost(0, 0), 5);
        DUE.is("peak of a row", six.orderCost(0, 1), 8 + 2);
    }

    private static void promise18() {
        DUE.is("none", new CrankLayout().bestOrder(), NONE);
        DUE.is("two alike", Make.four().bestOrder(), 0);
        DUE.is("one", Make.shaft(1).bestOrder(), 0);
        // All peaks are 8 (four slots apart); 0 4 2 5 1 3 is the first without neighbours.
        DUE.is("six", Make.shaft(0, 8, 4, 4, 8, 0).bestOrder(), 2);
        bestIsAsTheCostsSay(Make.eight());
        bestIsAsTheCostsSay(Make.shaft(0, 6, 3, 9, 0, 6, 3, 9));
        bestIsAsTheCostsSay(Make.shaft(0, 6, 0, 6, 9, 3, 9, 3));
        bestIsAsTheCostsSay(Make.shaft(0, 6, 9, 3, 3, 9, 6, 0));
        bestIsAsTheCostsSay(Make.shaft(0, 3, 6, 9, 3, 0, 9, 6));
        bestIsAsTheCostsSay(Make.shaft(0, 0, 3, 3, 6, 6, 9, 9));
    }

    private static void bestIsAsTheCostsSay(CrankLayout x) {
        int best = 0;
        for (int order = 1; order < x.orders(); order++) {
            int peaks = x.orderCost(order, 1) - x.orderCost(best, 1);
            int penalties = x.orderCost(order, 0) - x.orderCost(best, 0);
            if (peaks < 0 || peaks == 0 && penalties < 0) {
                best = order;
            }
        }
        DUE.is("bestOrder()", x.bestOrder(), best);
    }

    private static void promise19() {
        CrankLayout x = Make.four();
        DUE.is("choose(2)", x.choose(2), BAD_INDEX);
        DUE.is("choose(-1)", x.choose(-1), BAD_INDEX);
        DUE.is("nothing chosen", x.cylinder(0, 4), NONE);
        DUE.is("choose(0)", x.choose(0), 0);
        DUE.is("slot of 1", x.cylinder(1, 4), 6);
        DUE.is("slot of 2", x.cylinder(2, 4), 18);
        x.turn(2, false);
        DUE.is("choose(2) again", x.choose(2), BAD_INDEX);
        DUE.is("slot of 1 stays", x.cylinder(1, 4), 6);
        DUE.is("choose(1)", x.choose(1), 0);
        DUE.is("slot of 1 then", x.cylinder(1, 4), 18);
        DUE.is("slot of 2 then", x.cylinder(2, 4), 6);
        DUE.is("off stays off", x.cylinder(2, 3), 0);
        DUE.is("on stays on", x.cylinder(1, 3), 1);
        CrankLayout late = Make.shaft(4, 0, 8);
        DUE.is("the lower slot of 0", late.choose(0), 8);
        DUE.is("slot of 2 from there", late.cylinder(2, 4), 16);
        DUE.is("slot of 1 from there", late.cylinder(1, 4), 0);
        CrankLayout eleven = Make.shaft(1, 1);
        DUE.is("slot 11", eleven.choose(0), 11);
        DUE.is("and 23", eleven.cylinder(1, 4), 23);
        CrankLayout two = Make.shaft(1, 7);
        two.setStrokes(2);
        DUE.is("slot 11 of 12", two.choose(0), 11);
        DUE.is("and 5", two.cylinder(1, 4), 5);
    }
}
