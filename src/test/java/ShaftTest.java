/** Promises 1 to 9: a new object, and what is set on the shaft. */
public final class ShaftTest {
    private static final int BAD_INDEX = -1000001;
    private static final int BAD_VALUE = -1000002;
    private static final int NOT_POSSIBLE = -1000003;
    private static final int FULL = -1000004;
    private static final int NONE = -1000005;

    private static final Due DUE = new Due("ShaftTest");

    public static void main(String[] args) {
        promise1();
        promise2();
        promise3();
        promise4();
        promise5();
        promise6();
        promise7();
        promise7Full();
        promise8();
        promise9();
        DUE.end();
    }

    private static void asAtFirst(CrankLayout x, int cylinders) {
        for (int i = 0; i < cylinders; i++) {
            DUE.is("throw at first", x.cylinder(i, 0), 0);
            DUE.is("mass at first", x.cylinder(i, 1), 10);
            DUE.is("place at first", x.cylinder(i, 2), 10 * i);
            DUE.is("on at first", x.cylinder(i, 3), 1);
            DUE.is("slot at first", x.cylinder(i, 4), NONE);
        }
        DUE.is("no further cylinder", x.cylinder(cylinders, 0), BAD_INDEX);
    }

    private static void promise1() {
        CrankLayout x = new CrankLayout();
        asAtFirst(x, 4);
        DUE.is("no weight", x.weight(0, 0), BAD_INDEX);
        DUE.is("empty text", x.clearText(), 0);
        DUE.is("fault of the empty text", x.faultPosition(), 0);
        DUE.is("slot 0 is empty", x.restore(0), NOT_POSSIBLE);
        DUE.is("slot 1 is empty", x.restore(1), NOT_POSSIBLE);
        DUE.is("nothing is chosen", x.longestGap(), NOT_POSSIBLE);
        DUE.is("four strokes", x.setStrokes(4), 4);
        DUE.is("four cylinders", x.setCylinders(4), 4);
    }

    private static void promise2() {
        CrankLayout x = Make.four();
        x.setMass(2, 33);
        x.setPlace(3, -7);
        x.setWeight(5, 5, 5);
        x.setStrokes(2);
        DUE.is("setCylinders(0)", x.setCylinders(0), BAD_VALUE);
        DUE.is("setCylinders(9)", x.setCylinders(9), BAD_VALUE);
        DUE.is("setCylinders(-1)", x.setCylinders(-1), BAD_VALUE);
        DUE.is("mass stays after an error", x.cylinder(2, 1), 33);
        DUE.is("setCylinders(8)", x.setCylinders(8), 4);
        asAtFirst(x, 8);
        DUE.is("weight stays", x.weight(0, 2), 5);
        DUE.is("strokes stay", x.setStrokes(4), 2);
        x.setThrow(7, 3);
        x.setMass(7, 3);
        x.setPlace(7, 3);
        DUE.is("setCylinders(1)", x.setCylinders(1), 8);
        asAtFirst(x, 1);
        DUE.is("setCylinders(8) again", x.setCylinders(8), 1);
        asAtFirst(x, 8);
        CrankLayout same = Make.four();
        same.choose(0);
        same.turn(1, false);
        DUE.is("setCylinders to what it is", same.setCylinders(4), 4);
        asAtFirst(same, 4);
        DUE.is("orders of four at once", same.orders(), 0);
        same.setCylinders(2);
        DUE.is("orders of two at once", same.orders(), 1);
        DUE.is("the second of the two", same.order(0, 1), 1);
        same.setCylinders(1);
        DUE.is("orders of one", same.orders(), 1);
        DUE.is("no second one", same.order(0, 1), BAD_INDEX);
        same.setCylinders(3);
        DUE.is("orders of three at once", same.orders(), 0);
    }

    private static void promise3() {
        CrankLayout x = Make.four();
        x.choose(1);
        x.turn(2, false);
        DUE.is("setStrokes(3)", x.setStrokes(3), BAD_VALUE);
        DUE.is("setStrokes(0)", x.setStrokes(0), BAD_VALUE);
        DUE.is("setStrokes(1)", x.setStrokes(1), BAD_VALUE);
        DUE.is("setStrokes(5)", x.setStrokes(5), BAD_VALUE);
        DUE.is("setStrokes(-2)", x.setStrokes(-2), BAD_VALUE);
        DUE.is("choice stays after an error", x.cylinder(0, 4), 0);
        DUE.is("off stays after an error", x.cylinder(2, 3), 0);
        DUE.is("setStrokes to what they are", x.setStrokes(4), 4);
        DUE.is("no choice", x.cylinder(0, 4), NONE);
        DUE.is("all on", x.cylinder(2, 3), 1);
        DUE.is("throw stays", x.cylinder(2, 0), 6);
        DUE.is("orders with 24 slots", x.orders(), 2);
        DUE.is("setStrokes(2)", x.setStrokes(2), 4);
        DUE.is("orders with 12 slots", x.orders(), 0);
        DUE.is("setStrokes(4)", x.setStrokes(4), 2);
        DUE.is("orders again", x.orders(), 2);
    }

    private static void promise4() {
        CrankLayout x = Make.four();
        x.choose(0);
        x.turn(1, false);
        DUE.is("setThrow(4, 12)", x.setThrow(4, 12), BAD_INDEX);
        DUE.is("setThrow(-1, 0)", x.setThrow(-1, 0), BAD_INDEX);
        DUE.is("setThrow(0, 12)", x.setThrow(0, 12), BAD_VALUE);
        DUE.is("setThrow(0, -1)", x.setThrow(0, -1), BAD_VALUE);
        DUE.is("choice stays after an error", x.cylinder(1, 4), 6);
        DUE.is("off stays after an error", x.cylinder(1, 3), 0);
        DUE.is("setThrow(1, 6)", x.setThrow(1, 6), 6);
        DUE.is("no choice", x.cylinder(1, 4), NONE);
        DUE.is("all on", x.cylinder(1, 3), 1);
        DUE.is("setThrow(3, 11)", x.setThrow(3, 11), 0);
        DUE.is("throw", x.cylinder(3, 0), 11);
        DUE.is("orders", x.orders(), 0);
    }

    private static void promise5() {
        CrankLayout x = Make.four();
        x.choose(0);
        DUE.is("setMass(4, 100)", x.setMass(4, 100), BAD_INDEX);
        DUE.is("setMass(-1, 1)", x.setMass(-1, 1), BAD_INDEX);
        DUE.is("setMass(0, 100)", x.setMass(0, 100), BAD_VALUE);
        DUE.is("setMass(0, -1)", x.setMass(0, -1), BAD_VALUE);
        DUE.is("setMass(0, 99)", x.setMass(0, 99), 10);
        DUE.is("setMass(0, 0)", x.setMass(0, 0), 99);
        DUE.is("mass", x.cylinder(0, 1), 0);
        DUE.is("other mass", x.cylinder(1, 1), 10);
        DUE.is("choice stays", x.cylinder(1, 4), 6);
    }

    private static void promise6() {
        CrankLayout x = Make.four();
        x.choose(0);
        DUE.is("setPlace(4, 101)", x.setPlace(4, 101), BAD_INDEX);
        DUE.is("setPlace(-1, 1)", x.setPlace(-1, 1), BAD_INDEX);
        DUE.is("setPlace(3, 101)", x.setPlace(3, 101), BAD_VALUE);
        DUE.is("setPlace(3, -101)", x.setPlace(3, -101), BAD_VALUE);
        DUE.is("setPlace(3, 100)", x.setPlace(3, 100), 30);
        DUE.is("setPlace(3, -100)", x.setPlace(3, -100), 100);
        DUE.is("place", x.cylinder(3, 2), -100);
        DUE.is("other place", x.cylinder(2, 2), 20);
        DUE.is("choice stays", x.cylinder(1, 4), 6);
    }

    private static void promise7() {
        CrankLayout x = Make.four();
        x.choose(0);
        DUE.is("take none away", x.setWeight(0, 0, 0), 0);
        DUE.is("place too small", x.setWeight(-101, 0, 1), BAD_VALUE);
        DUE.is("place too great", x.setWeight(101, 0, 1), BAD_VALUE);
        DUE.is("turn too small", x.setWeight(0, -1, 1), BAD_VALUE);
        DUE.is("turn too great", x.setWeight(0, 12, 1), BAD_VALUE);
        DUE.is("mass too small", x.setWeight(0, 0, -1), BAD_VALUE);
        DUE.is("mass too great", x.setWeight(0, 0, 1000), BAD_VALUE);
        DUE.is("place is wrong though the mass is 0", x.setWeight(101, 0, 0), BAD_VALUE);
        DUE.is("turn is wrong though the mass is 0", x.setWeight(0, 12, 0), BAD_VALUE);
        DUE.is("none set by an error", x.weight(0, 0), BAD_INDEX);
        DUE.is("first", x.setWeight(100, 11, 999), 1);
        DUE.is("second", x.setWeight(-100, 0, 1), 2);
        DUE.is("other mass", x.setWeight(100, 11, 5), 2);
        DUE.is("the other mass", x.weight(1, 2), 5);
        DUE.is("same place, other turn", x.setWeight(100, 10, 7), 3);
        DUE.is("same turn, other place", x.setWeight(99, 11, 8), 4);
        DUE.is("no such turn", x.setWeight(100, 9, 0), 4);
        DUE.is("take away", x.setWeight(100, 10, 0), 3);
        DUE.is("again", x.setWeight(100, 10, 0), 3);
        DUE.is("those behind move up", x.weight(2, 2), 5);
        DUE.is("and keep their turn", x.weight(2, 1), 11);
        DUE.is("choice stays", x.cylinder(1, 4), 6);
    }

    private static void promise7Full() {
        CrankLayout x = new CrankLayout();
        for (int i = 0; i < 8; i++) {
            DUE.is("weight " + i, x.setWeight(80 - 10 * i, i, 1 + i), i + 1);
        }
        DUE.is("a ninth", x.setWeight(0, 0, 1), FULL);
        DUE.is("a ninth with a wrong turn", x.setWeight(0, 12, 1), BAD_VALUE);
        DUE.is("a ninth with no mass", x.setWeight(0, 0, 0), 8);
        DUE.is("one of the eight", x.setWeight(80, 0, 77), 8);
        DUE.is("its mass", x.weight(7, 2), 77);
        DUE.is("the front one stays", x.weight(0, 2), 8);
        DUE.is("take one away", x.setWeight(80, 0, 0), 7);
        DUE.is("now there is room", x.setWeight(-100, 0, 3), 8);
        DUE.is("its number", x.weight(0, 2), 3);
        DUE.is("and full again", x.setWeight(80, 0, 1), FULL);
    }

    private static void promise8() {
        CrankLayout x = new CrankLayout();
        x.setWeight(10, 5, 1);
        x.setWeight(-10, 7, 2);
        x.setWeight(10, 4, 3);
        x.setWeight(0, 11, 4);
        x.setWeight(10, 6, 5);
        int[][] want = {{-10, 7, 2}, {0, 11, 4}, {10, 4, 3}, {10, 5, 1}, {10, 6, 5}};
        for (int i = 0; i < want.length; i++) {
            for (int what = 0; what < 3; what++) {
                DUE.is("weight(" + i + ", " + what + ")", x.weight(i, what), want[i][what]);
            }
        }
        DUE.is("weight(5, 3)", x.weight(5, 3), BAD_INDEX);
        DUE.is("weight(-1, 0)", x.weight(-1, 0), BAD_INDEX);
        DUE.is("weight(0, 3)", x.weight(0, 3), BAD_VALUE);
        DUE.is("weight(0, -1)", x.weight(0, -1), BAD_VALUE);
    }

    private static void promise9() {
        CrankLayout x = Make.four();
        x.setMass(1, 22);
        x.setPlace(1, -3);
        DUE.is("no slot", x.cylinder(1, 4), NONE);
        x.choose(1);
        x.turn(1, false);
        int[] want = {6, 22, -3, 0, 18};
        for (int what = 0; what < 5; what++) {
            DUE.is("cylinder(1, " + what + ")", x.cylinder(1, what), want[what]);
        }
        DUE.is("cylinder(2, 4)", x.cylinder(2, 4), 6);
        DUE.is("cylinder(3, 4)", x.cylinder(3, 4), 12);
        DUE.is("cylinder(0, 3)", x.cylinder(0, 3), 1);
        DUE.is("cylinder(4, 5)", x.cylinder(4, 5), BAD_INDEX);
        DUE.is("cylinder(-1, 0)", x.cylinder(-1, 0), BAD_INDEX);
        DUE.is("cylinder(0, 5)", x.cylinder(0, 5), BAD_VALUE);
        DUE.is("cylinder(0, -1)", x.cylinder(0, -1), BAD_VALUE);
    }
}
