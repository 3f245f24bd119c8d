/** Promises 10 to 14: vectors, balance and weights against them. */
public final class BalanceTest {
    private static final int BAD_INDEX = -1000001;
    private static final int BAD_VALUE = -1000002;
    private static final int NONE = -1000005;

    /** For each turn: x with a and b, y with a and b, as the document tells them. */
    private static final int[][] DIRECTIONS = {
        {2, 0, 0, 0}, {0, 1, 1, 0}, {1, 0, 0, 1}, {0, 0, 2, 0}, {-1, 0, 0, 1}, {0, -1, 1, 0},
        {-2, 0, 0, 0}, {0, -1, -1, 0}, {-1, 0, 0, -1}, {0, 0, -2, 0}, {1, 0, 0, -1}, {0, 1, -1, 0}};

    private static final Due DUE = new Due("BalanceTest");

    public static void main(String[] args) {
        promise10Directions();
        promise10Sums();
        promise11();
        promise12();
        promise13();
        promise13Limits();
        promise14();
        promise14Limits();
        DUE.end();
    }

    private static void vectorIs(CrankLayout x, int vector, int xa, int xb, int ya, int yb) {
        DUE.is("x a of " + vector, x.vector(vector, false, false), xa);
        DUE.is("x b of " + vector, x.vector(vector, false, true), xb);
        DUE.is("y a of " + vector, x.vector(vector, true, false), ya);
        DUE.is("y b of " + vector, x.vector(vector, true, true), yb);
    }

    private static void promise10Directions() {
        for (int turn = 0; turn < 12; turn++) {
            CrankLayout x = Make.shaft(turn);
            x.setMass(0, 1);
            x.setPlace(0, -3);
            int[] one = DIRECTIONS[turn];
            int[] two = DIRECTIONS[2 * turn % 12];
            vectorIs(x, 0, one[0], one[1], one[2], one[3]);
            vectorIs(x, 1, -3 * one[0], -3 * one[1], -3 * one[2], -3 * one[3]);
            vectorIs(x, 2, two[0], two[1], two[2], two[3]);
            vectorIs(x, 3, -3 * two[0], -3 * two[1], -3 * two[2], -3 * two[3]);
            x.setMass(0, 0);
            x.setWeight(-5, turn, 4);
            vectorIs(x, 0, 4 * one[0], 4 * one[1], 4 * one[2], 4 * one[3]);
            vectorIs(x, 1, -20 * one[0], -20 * one[1], -20 * one[2], -20 * one[3]);
            vectorIs(x, 2, 0, 0, 0, 0);
            vectorIs(x, 3, 0, 0, 0, 0);
        }
    }

    private static void promise10Sums() {
        CrankLayout x = Make.shaft(1, 2, 9);
        x.setMass(0, 3);
        x.setMass(1, 5);
        x.setMass(2, 7);
        x.setPlace(0, -10);
        x.setPlace(1, 20);
        x.setPlace(2, 100);
        x.setWeight(-100, 1, 999);
        vectorIs(x, 0, 5, 3 + 999, 3 - 14 + 999, 5);
        vectorIs(x, 1, 100, -30 - 99900, -30 - 1400 - 99900, 100);
        vectorIs(x, 2, 3 - 5 - 14, 0, 0, 3 + 5);
        vectorIs(x, 3, -30 - 100 - 1400, 0, 0, -30 + 100);
        DUE.is("vector(4)", x.vector(4, false, false), BAD_INDEX);
        DUE.is("vector(-1)", x.vector(-1, true, true), BAD_INDEX);
    }

    private static void promise11() {
        DUE.is("all throws 0", new CrankLayout().balanced(), 0);
        DUE.is("four in line", Make.four().balanced(), 3);
        DUE.is("six in line", Make.shaft(0, 4, 8, 8, 4, 0).balanced(), 15);
        DUE.is("three in line", Make.shaft(0, 4, 8).balanced(), 1 + 4);
        DUE.is("two against each other", Make.shaft(0, 6).balanced(), 1);
        CrankLayout x = Make.shaft(3);
        DUE.is("one at place 0", x.balanced(), 2 + 8);
        x.setMass(0, 0);
        DUE.is("one without mass", x.balanced(), 15);
        x.setWeight(0, 11, 1);
        DUE.is("a weight counts for the force", x.balanced(), 2 + 4 + 8);
        x.setWeight(0, 11, 0);
        x.setWeight(1, 2, 1);
        DUE.is("a weight counts for the first kind", x.balanced(), 4 + 8);
    }

    private static void promise12() {
        DUE.is("at first", new CrankLayout().isMirrored(), 1);
        DUE.is("one", Make.shaft(5).isMirrored(), 1);
        DUE.is("four", Make.four().isMirrored(), 1);
        DUE.is("other throws", Make.shaft(0, 6, 0, 6).isMirrored(), 0);
        DUE.is("the middle pair differs", Make.shaft(0, 6, 5, 0).isMirrored(), 0);
        CrankLayout x = Make.shaft(0, 6, 1, 6, 0);
        DUE.is("five", x.isMirrored(), 1);
        x.setMass(4, 11);
        DUE.is("other mass", x.isMirrored(), 0);
        x.setMass(0, 11);
        DUE.is("same mass", x.isMirrored(), 1);
        x.setPlace(2, 21);
        DUE.is("the middle is off", x.isMirrored(), 0);
        x.setPlace(2, 20);
        x.setPlace(1, 9);
        DUE.is("a place is off", x.isMirrored(), 0);
        x.setPlace(3, 31);
        DUE.is("both places are off alike", x.isMirrored(), 1);
        x.setPlace(0, 1);
        DUE.is("the outer places have another sum", x.isMirrored(), 0);
    }

    private static void promise13() {
        for (int turn = 0; turn < 12; turn++) {
            CrankLayout x = Make.shaft(turn);
            DUE.is("against turn " + turn, x.counterWeight(), 1000 * ((turn + 6) % 12) + 10);
            x.setWeight(50, (turn + 6) % 12, 10);
            DUE.is("balanced", x.counterWeight(), 0);
            x.setWeight(50, (turn + 6) % 12, 11);
            DUE.is("too much", x.counterWeight(), 1000 * turn + 1);
        }
        DUE.is("two at a right angle", Make.shaft(0, 3).counterWeight(), NONE);
        DUE.is("two at a sixth", Make.shaft(0, 4).counterWeight(), 8010);
        DUE.is("two thirty degrees apart", Make.shaft(0, 1).counterWeight(), NONE);
        DUE.is("six in line", Make.shaft(0, 4, 8, 8, 4, 0).counterWeight(), 0);
        // At turn 3, but 10 + 10 * root of 3, so no whole mass.
        DUE.is("whole and root at once", Make.shaft(3, 2, 4).counterWeight(), NONE);
    }

    private static void promise13Limits() {
        CrankLayout x = Make.shaft(0);
        x.setMass(0, 0);
        x.setWeight(-7, 0, 999);
        DUE.is("mass 999", x.counterWeight(), 6999);
        x.setMass(0, 1);
        DUE.is("mass 1000", x.counterWeight(), NONE);
        x.setWeight(-7, 0, 0);
        DUE.is("mass 1", x.counterWeight(), 6001);
        x.setMass(0, 0);
        x.setWeight(0, 2, 1);
        x.setWeight(0, 10, 1);
        DUE.is("one from two", x.counterWeight(), 6001);
        x.setWeight(0, 10, 2);
        DUE.is("between", x.counterWeight(), NONE);
    }

    private static void promise14() {
        CrankLayout x = Make.shaft(0, 6);
        // The moment is -10 * 10 at turn 0.
        DUE.is("counterPair(0, 10)", x.counterPair(0, 10), 6010);
        DUE.is("counterPair(10, 0)", x.counterPair(10, 0), 10);
        DUE.is("counterPair(0, 20)", x.counterPair(0, 20), 6005);
        DUE.is("counterPair(-50, 50)", x.counterPair(-50, 50), 6001);
        DUE.is("counterPair(0, 100)", x.counterPair(0, 100), 6001);
        DUE.is("counterPair(-100, 100)", x.counterPair(-100, 100), NONE);
        DUE.is("counterPair(0, 3)", x.counterPair(0, 3), NONE);
        DUE.is("counterPair(1, 0)", x.counterPair(1, 0), 100);
        for (int turn = 0; turn < 12; turn++) {
            CrankLayout y = Make.shaft(turn);
            y.setPlace(0, 6);
            DUE.is("before " + turn, y.counterPair(4, 2), 1000 * ((turn + 6) % 12) + 30);
            DUE.is("behind " + turn, y.counterPair(-2, 3), 1000 * turn + 12);
            y.setWeight(-2, turn, 12);
            y.setWeight(3, (turn + 6) % 12, 12);
            DUE.is("then", y.counterPair(-2, 3), 0);
            DUE.is("balanced", y.balanced() & 2, 2);
        }
        CrankLayout angle = Make.shaft(0, 0, 3);
        DUE.is("no single turn", angle.counterPair(0, 1), NONE);
    }

    private static void promise14Limits() {
        CrankLayout x = Make.shaft(0);
        DUE.is("balanced", x.counterPair(0, 10), 0);
        DUE.is("the same place", x.counterPair(10, 10), BAD_VALUE);
        DUE.is("place too small", x.counterPair(-101, 0), BAD_VALUE);
        DUE.is("place too great", x.counterPair(101, 0), BAD_VALUE);
        DUE.is("other too small", x.counterPair(0, -101), BAD_VALUE);
        DUE.is("other too great", x.counterPair(0, 101), BAD_VALUE);
        DUE.is("the ends", x.counterPair(-100, 100), 0);
        x.setMass(0, 0);
        x.setWeight(1, 3, 999);
        DUE.is("mass 999", x.counterPair(1, 0), 9999);
        DUE.is("mass 999, turned round", x.counterPair(-1, 0), 3999);
        x.setWeight(2, 3, 1);
        DUE.is("mass 1001", x.counterPair(1, 0), NONE);
        DUE.is("mass 1001 over 11", x.counterPair(11, 0), 9091);
        DUE.is("wrong place and not balanced", x.counterPair(5, 5), BAD_VALUE);
    }
}
