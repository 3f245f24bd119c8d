import java.util.function.Supplier;

/** The edges of the promises 10 to 14: a method for each sentence, which stands above it. */
public final class BalanceEdgesTest {
    private static final int BAD_INDEX = -1000001;
    private static final int BAD_VALUE = -1000002;
    private static final int NONE = -1000005;
    private static final int LEAST = Integer.MIN_VALUE;
    private static final int MOST = Integer.MAX_VALUE;

    /** For each turn: x with a and b, y with a and b, written out. */
    private static final int[][] DIRECTIONS = {
        {2, 0, 0, 0}, {0, 1, 1, 0}, {1, 0, 0, 1}, {0, 0, 2, 0}, {-1, 0, 0, 1}, {0, -1, 1, 0},
        {-2, 0, 0, 0}, {0, -1, -1, 0}, {-1, 0, 0, -1}, {0, 0, -2, 0}, {1, 0, 0, -1}, {0, 1, -1, 0}};

    /** The turns of one or two weights whose sum has just one part: x a, x b, y a or y b. */
    private static final int[][] SINGLE_PARTS = {{0}, {1, 11}, {3}, {2, 4}};

    private static final Due DUE = new Due("BalanceEdgesTest");

    public static void main(String[] args) throws Exception {
        Every.test(BalanceEdgesTest.class, DUE);
    }

    private static Same same(Supplier<CrankLayout> state) {
        return new Same(DUE, state);
    }

    private static void vectorIs(CrankLayout x, int vector, int xa, int xb, int ya, int yb) {
        DUE.is("x a of " + vector, x.vector(vector, false, false), xa);
        DUE.is("x b of " + vector, x.vector(vector, false, true), xb);
        DUE.is("y a of " + vector, x.vector(vector, true, false), ya);
        DUE.is("y b of " + vector, x.vector(vector, true, true), yb);
    }

    /** One cylinder without mass, so that the weights alone count. */
    private static CrankLayout weightless() {
        CrankLayout x = Make.shaft(0);
        x.setMass(0, 0);
        return x;
    }

    /** A shaft of two with forces and no moment of the first kind. */
    private static CrankLayout levelled() {
        CrankLayout x = Make.shaft(0, 6);
        x.setMass(1, 20);
        x.setPlace(0, 20);
        return x;
    }

    // ---- promise 10

    /** "FORCE1 to MOMENT2" */
    static void promise10TakesZeroToThree() {
        CrankLayout x = Make.shaft(1);
        x.setPlace(0, 2);
        vectorIs(x, 0, 0, 10, 10, 0);
        vectorIs(x, 1, 0, 20, 20, 0);
        vectorIs(x, 2, 10, 0, 0, 10);
        vectorIs(x, 3, 20, 0, 0, 20);
    }

    /** "FORCE1 to MOMENT2": what lies beside */
    static void promise10RefusesMinusOneAndFour() {
        for (int vector : new int[] {LEAST, -1, 4, 5, MOST}) {
            for (int part = 0; part < 4; part++) {
                boolean y = part > 1;
                boolean root = part % 2 == 1;
                String call = "vector(" + vector + ", " + y + ", " + root + ")";
                same(CrankLayout::new).after(call, x -> x.vector(vector, y, root), BAD_INDEX);
                same(Make::full).after(call, x -> x.vector(vector, y, root), BAD_INDEX);
            }
        }
    }

    /** "y has for t what x has for t + 9 modulo 12": from turn 3 on beyond the last one */
    static void promise10YGoesAround() {
        for (int turn = 0; turn < 12; turn++) {
            CrankLayout x = Make.shaft(turn);
            int[] one = DIRECTIONS[turn];
            vectorIs(x, 0, 10 * one[0], 10 * one[1], 10 * one[2], 10 * one[3]);
        }
    }

    /** "twice the throw (modulo 12)": from throw 6 on it goes around */
    static void promise10TwiceTheThrowGoesAround() {
        for (int turn = 0; turn < 12; turn++) {
            CrankLayout x = Make.shaft(turn);
            x.setPlace(0, -1);
            int[] two = DIRECTIONS[turn < 6 ? 2 * turn : 2 * turn - 12];
            vectorIs(x, 2, 10 * two[0], 10 * two[1], 10 * two[2], 10 * two[3]);
            vectorIs(x, 3, -10 * two[0], -10 * two[1], -10 * two[2], -10 * two[3]);
        }
    }

    /** "over all cylinders": the first and the last one too */
    static void promise10CountsTheEnds() {
        CrankLayout x = Make.shaft(0, 0, 0, 0, 0, 0, 0, 3);
        for (int i = 1; i < 7; i++) {
            x.setMass(i, 0);
        }
        x.setPlace(0, 1);
        vectorIs(x, 0, 20, 0, 20, 0);
        vectorIs(x, 1, 20, 0, 1400, 0);
    }

    /** "over all cylinders": a mass or a place of 0 adds nothing */
    static void promise10NothingThere() {
        CrankLayout x = weightless();
        x.setPlace(0, 100);
        for (int vector = 0; vector <= 3; vector++) {
            vectorIs(x, vector, 0, 0, 0, 0);
        }
        CrankLayout at = Make.shaft(0);
        vectorIs(at, 0, 20, 0, 0, 0);
        vectorIs(at, 1, 0, 0, 0, 0);
        vectorIs(at, 3, 0, 0, 0, 0);
    }

    /** "and of mass times the direction of its turn, over all weights": the first and the last */
    static void promise10CountsAllWeights() {
        CrankLayout x = weightless();
        Make.eightWeights(x);
        // (-100, 0, 1) (-100, 5, 6) (-1, 11, 300) (0, 0, 20) (0, 6, 5) (3, 7, 7) (100, 10, 40)
        // (100, 11, 999)
        vectorIs(x, 0, 2 + 40 - 10 + 40, -6 + 300 - 7 + 999, 6 - 300 - 7 - 999, -40);
        vectorIs(x, 1, -200 + 4000, 600 - 300 - 21 + 99900, -600 + 300 - 21 - 99900, -4000);
    }

    /** "(weights do not count)", for the second kind */
    static void promise10CountsNoWeightTwice() {
        CrankLayout x = weightless();
        Make.eightWeights(x);
        vectorIs(x, 2, 0, 0, 0, 0);
        vectorIs(x, 3, 0, 0, 0, 0);
    }

    /** the greatest masses and places, on both sides */
    static void promise10HoldsTheGreatest() {
        for (int side = -1; side <= 1; side += 2) {
            CrankLayout x = Make.shaft(0, 0, 0, 0, 0, 0, 0, 0);
            for (int i = 0; i < 8; i++) {
                x.setMass(i, 99);
                x.setPlace(i, side * 100);
                x.setWeight(side * (100 - i), 0, 999);
            }
            vectorIs(x, 0, 2 * (8 * 99 + 8 * 999), 0, 0, 0);
            vectorIs(x, 1, side * 2 * (79200 + 999 * 772), 0, 0, 0);
            vectorIs(x, 2, 2 * 8 * 99, 0, 0, 0);
            vectorIs(x, 3, side * 2 * 79200, 0, 0, 0);
        }
    }

    /** "Returns this number": asking changes nothing */
    static void promise10OnlyAsks() {
        // Of the cylinders there are 11 * k at the throws 0 9 3 6 6 3 9 0.
        same(Make::full)
            .after("vector(0, false, false)", x -> x.vector(0, false, false), 72 + 2 * (77 - 33 - 44))
            .after("vector(0, true, true)", x -> x.vector(0, true, true), -40)
            .after("vector(2, false, true)", x -> x.vector(2, false, true), 0);
    }

    // ---- promise 11

    /** "bit k for the vector k": none of them, and all of them */
    static void promise11NoneAndAll() {
        DUE.is("none", new CrankLayout().balanced(), 0);
        DUE.is("all", weightless().balanced(), 15);
        DUE.is("all of six", Make.shaft(0, 4, 8, 8, 4, 0).balanced(), 15);
    }

    /** "bit k for the vector k": each of them alone */
    static void promise11EachAlone() {
        DUE.is("FORCE1", Make.shaft(0, 6).balanced(), 1);
        DUE.is("MOMENT1", levelled().balanced(), 2);
        DUE.is("FORCE2", Make.shaft(0, 3).balanced(), 4);
        CrankLayout x = Make.shaft(0, 3);
        x.setMass(1, 20);
        x.setPlace(0, 20);
        DUE.is("MOMENT2", x.balanced(), 8);
    }

    /** "A vector is balanced if a and b are 0 for both its parts": one that is not is enough */
    static void promise11EachPartCounts() {
        for (int[] turns : SINGLE_PARTS) {
            for (int mass : new int[] {1, 999}) {
                CrankLayout x = weightless();
                for (int i = 0; i < turns.length; i++) {
                    x.setWeight(0, turns[i], mass);
                }
                DUE.is("FORCE1 with turn " + turns[0], x.balanced(), 14);
                CrankLayout moment = weightless();
                for (int i = 0; i < turns.length; i++) {
                    moment.setWeight(1, turns[i], mass);
                    moment.setWeight(0, (turns[i] + 6) % 12, mass);
                }
                DUE.is("MOMENT1 with turn " + turns[0], moment.balanced(), 13);
            }
        }
    }

    /** the same for the second kind, which has x with a and y with b alone */
    static void promise11EachPartOfTheSecondKindCounts() {
        CrankLayout x = Make.shaft(0);
        x.setMass(0, 1);
        DUE.is("x a", x.balanced(), 2 + 8);
        CrankLayout y = Make.shaft(1, 2);
        y.setMass(0, 1);
        y.setMass(1, 1);
        y.setPlace(1, 0);
        vectorIs(y, 2, 0, 0, 0, 2);
        DUE.is("y b", y.balanced(), 2 + 8);
    }

    /** "Returns the set": asking changes nothing */
    static void promise11OnlyAsks() {
        // Of the second kind: 0 - 11 - 22 + 33 + 44 - 55 - 66 + 77.
        same(Make::full).after("balanced()", x -> x.balanced(), 4);
        same(BalanceEdgesTest::levelled).after("balanced()", x -> x.balanced(), 2);
    }

    // ---- promise 12

    /** "for all k": the only one is its own */
    static void promise12OneIsMirrored() {
        CrankLayout x = Make.shaft(11);
        x.setMass(0, 99);
        x.setPlace(0, -37);
        DUE.is("one", x.isMirrored(), 1);
    }

    /** "the places of both have the same sum for all k": with two it is the only sum */
    static void promise12TwoHaveAnyPlaces() {
        CrankLayout x = Make.shaft(3, 3);
        x.setPlace(0, 100);
        x.setPlace(1, 99);
        DUE.is("two", x.isMirrored(), 1);
        x.setThrow(1, 9);
        DUE.is("other throws", x.isMirrored(), 0);
        x.setThrow(0, 9);
        x.setMass(0, 0);
        DUE.is("other masses", x.isMirrored(), 0);
    }

    /** "for all k": each pair of eight, from the outer one to the one in the middle */
    static void promise12EachPairCounts() {
        for (int k = 0; k < 8; k++) {
            CrankLayout x = Make.eight();
            DUE.is("eight", x.isMirrored(), 1);
            x.setThrow(k, 1);
            DUE.is("other throw of " + k, x.isMirrored(), 0);
            x.setThrow(7 - k, 1);
            DUE.is("same throw of " + (7 - k), x.isMirrored(), 1);
            x.setMass(k, 11);
            DUE.is("other mass of " + k, x.isMirrored(), 0);
            x.setMass(7 - k, 11);
            DUE.is("same mass of " + (7 - k), x.isMirrored(), 1);
            x.setPlace(k, 10 * k + 1);
            DUE.is("other place of " + k, x.isMirrored(), 0);
            x.setPlace(7 - k, 10 * (7 - k) - 1);
            DUE.is("same sum with " + (7 - k), x.isMirrored(), 1);
        }
    }

    /** "for all k": the one in the middle counts twice */
    static void promise12TheMiddleCountsTwice() {
        CrankLayout x = Make.shaft(0, 5, 0);
        x.setPlace(0, -100);
        x.setPlace(2, 100);
        DUE.is("at 10", x.isMirrored(), 0);
        x.setPlace(1, 0);
        DUE.is("at 0", x.isMirrored(), 1);
        x.setPlace(2, 99);
        DUE.is("an odd sum", x.isMirrored(), 0);
        x.setThrow(1, 11);
        x.setMass(1, 0);
        x.setPlace(2, 100);
        DUE.is("any throw and mass", x.isMirrored(), 1);
    }

    /** weights, the choice and those that are off are not told to count */
    static void promise12CountsCylindersAlone() {
        CrankLayout x = Make.eight();
        Make.eightWeights(x);
        x.choose(3);
        x.turn(0, false);
        DUE.is("isMirrored()", x.isMirrored(), 1);
    }

    /** "Returns 1 ...; 0 if not": asking changes nothing */
    static void promise12OnlyAsks() {
        same(Make::full).after("isMirrored()", x -> x.isMirrored(), 0);
        same(Make::four).after("isMirrored()", x -> x.isMirrored(), 1);
    }

    // ---- promise 13

    /** "of 0 to 11": each turn, the first and the last too */
    static void promise13TellsTurnsToBothEnds() {
        for (int turn = 0; turn < 12; turn++) {
            CrankLayout x = weightless();
            x.setWeight(50, (turn + 6) % 12, 7);
            DUE.is("counterWeight()", x.counterWeight(), 1000 * turn + 7);
        }
    }

    /** "with a mass from 1 to 999": these are told, at each turn */
    static void promise13TellsMassesToBothEnds() {
        for (int turn = 0; turn < 12; turn++) {
            CrankLayout x = weightless();
            x.setWeight(50, (turn + 6) % 12, 1);
            DUE.is("the least", x.counterWeight(), 1000 * turn + 1);
            x.setWeight(50, (turn + 6) % 12, 999);
            DUE.is("the greatest", x.counterWeight(), 1000 * turn + 999);
        }
    }

    /** "with a mass from 1 to 999": 1000 is not told */
    static void promise13TellsNoThousand() {
        for (int turn = 0; turn < 12; turn++) {
            CrankLayout x = weightless();
            x.setWeight(50, turn, 999);
            x.setWeight(-50, turn, 1);
            DUE.is("1000 at " + turn, x.counterWeight(), NONE);
            x.setWeight(-50, turn, 999);
            DUE.is("1998 at " + turn, x.counterWeight(), NONE);
        }
    }

    /** "0 if FORCE1 is balanced", and not only one of its parts */
    static void promise13TellsZeroIfBalanced() {
        DUE.is("nothing there", weightless().counterWeight(), 0);
        DUE.is("two opposite", Make.shaft(5, 11).counterWeight(), 0);
        CrankLayout x = weightless();
        x.setWeight(-100, 2, 999);
        x.setWeight(100, 6, 999);
        x.setWeight(0, 10, 999);
        DUE.is("three around", x.counterWeight(), 0);
    }

    /** "NONE if there is no such weight": each part must become 0 */
    static void promise13NeedsEachPart() {
        for (int turn = 0; turn < 12; turn++) {
            for (int[] more : SINGLE_PARTS) {
                CrankLayout x = weightless();
                x.setWeight(0, turn, 10);
                for (int i = 0; i < more.length; i++) {
                    x.setWeight(1, more[i], 1);
                }
                int want = NONE;
                if (more.length == 1 && turn % 6 == more[0]) {
                    want = turn < 6 ? 1000 * (turn + 6) + 11 : 1000 * (turn - 6) + 9;
                }
                DUE.is("10 at " + turn + " and 1 at " + more[0], x.counterWeight(), want);
            }
        }
    }

    /** "NONE if there is no such weight": a root is no mass */
    static void promise13TellsNoRoot() {
        for (int turn = 0; turn < 12; turn++) {
            CrankLayout x = Make.shaft((turn + 1) % 12, (turn + 11) % 12);
            DUE.is("10 roots at " + turn, x.counterWeight(), NONE);
        }
    }

    /** "besides those that there are": also if there are eight, and none can be set */
    static void promise13TellsANinth() {
        CrankLayout x = Make.shaft(0);
        for (int i = 0; i < 8; i++) {
            x.setWeight(i, 6, 1);
        }
        DUE.is("counterWeight()", x.counterWeight(), 6002);
        x.setWeight(0, 6, 4);
        DUE.is("turned round", x.counterWeight(), 1);
        x.setWeight(0, 6, 3);
        DUE.is("balanced", x.counterWeight(), 0);
    }

    /** "(wherever it is)": the places do not count */
    static void promise13CountsNoPlaces() {
        CrankLayout x = Make.shaft(0);
        x.setPlace(0, -100);
        x.setWeight(100, 6, 3);
        DUE.is("counterWeight()", x.counterWeight(), 6007);
    }

    /** "Tells": no weight is set, nothing is changed */
    static void promise13OnlyTells() {
        same(CrankLayout::new).after("counterWeight()", x -> x.counterWeight(), 6040);
        same(Make::full).after("counterWeight()", x -> x.counterWeight(), NONE);
        same(Make::four).after("counterWeight()", x -> x.counterWeight(), 0);
    }

    // ---- promise 14

    /** "-100 to 100, another place": both ends, and places beside each other */
    static void promise14TakesPlacesToBothEnds() {
        CrankLayout x = weightless();
        x.setWeight(100, 0, 200);
        // The moment is 20000 at turn 0.
        DUE.is("counterPair(-100, 100)", x.counterPair(-100, 100), 100);
        DUE.is("counterPair(100, -100)", x.counterPair(100, -100), 6100);
        DUE.is("counterPair(-100, 0)", x.counterPair(-100, 0), 200);
        DUE.is("counterPair(0, -100)", x.counterPair(0, -100), 6200);
        x.setWeight(100, 0, 0);
        x.setWeight(1, 0, 33);
        DUE.is("counterPair(100, 99)", x.counterPair(100, 99), 6033);
        DUE.is("counterPair(-100, -99)", x.counterPair(-100, -99), 33);
        DUE.is("counterPair(0, -1)", x.counterPair(0, -1), 6033);
    }

    /** "-100 to 100": what lies beside, at place and at other */
    static void promise14RefusesOtherPlaces() {
        for (int place : new int[] {LEAST, -101, 101, MOST}) {
            refusesPlaces(place, 0);
            refusesPlaces(0, place);
            refusesPlaces(place, 100);
            refusesPlaces(-100, place);
            refusesPlaces(place, place);
            refusesPlaces(place, -place);
        }
    }

    /** "BAD_VALUE, also if both places are the same" */
    static void promise14RefusesTheSamePlace() {
        for (int place : new int[] {-100, -1, 0, 1, 100}) {
            refusesPlaces(place, place);
        }
    }

    /** whether the moment is balanced, can be, or can not be */
    private static void refusesPlaces(int place, int other) {
        String call = "counterPair(" + place + ", " + other + ")";
        same(CrankLayout::new).after(call, x -> x.counterPair(place, other), BAD_VALUE);
        same(Make::four).after(call, x -> x.counterPair(place, other), BAD_VALUE);
        same(Make::full).after(call, x -> x.counterPair(place, other), BAD_VALUE);
    }

    /** "0 if MOMENT1 is balanced", though FORCE1 is not */
    static void promise14TellsZeroIfBalanced() {
        DUE.is("nothing there", weightless().counterPair(-100, 100), 0);
        DUE.is("four in line", Make.four().counterPair(0, 1), 0);
        DUE.is("a force and no moment", levelled().counterPair(100, 99), 0);
    }

    /** "at opposite turns", "for the lowest turn, of 0 to 11": around the last one */
    static void promise14TellsTurnsToBothEnds() {
        for (int turn = 0; turn < 12; turn++) {
            CrankLayout x = weightless();
            x.setWeight(10, (turn + 6) % 12, 7);
            DUE.is("behind", x.counterPair(10, 0), 1000 * turn + 7);
            DUE.is("before", x.counterPair(0, 10), 1000 * ((turn + 6) % 12) + 7);
            x.setWeight(-40, turn, 35);
            x.setWeight(-42, (turn + 6) % 12, 35);
            DUE.is("so it is balanced", x.balanced() & 2, 2);
        }
    }

    /** "with a mass from 1 to 999": these are told, at each turn */
    static void promise14TellsMassesToBothEnds() {
        for (int turn = 0; turn < 12; turn++) {
            CrankLayout x = weightless();
            x.setWeight(5, (turn + 6) % 12, 999);
            DUE.is("the greatest", x.counterPair(5, 0), 1000 * turn + 999);
            DUE.is("too great", x.counterPair(4, 0), NONE);
            x.setWeight(5, (turn + 6) % 12, 40);
            DUE.is("the least", x.counterPair(100, -100), 1000 * turn + 1);
        }
    }

    /** "with a mass from 1 to 999": 1000 is not told */
    static void promise14TellsNoThousand() {
        for (int turn = 0; turn < 12; turn++) {
            CrankLayout x = weightless();
            x.setWeight(5, turn, 999);
            x.setWeight(1, turn, 5);
            DUE.is("1000 at " + turn, x.counterPair(5, 0), NONE);
            DUE.is("1000 from " + turn, x.counterPair(0, 5), NONE);
            DUE.is("half of it", x.counterPair(0, 10), 1000 * turn + 500);
        }
    }

    /** "1000 * the turn ... + the mass": a mass is whole, and not 0 */
    static void promise14TellsNoPartOfAMass() {
        for (int turn = 0; turn < 12; turn++) {
            CrankLayout x = weightless();
            x.setWeight(1, turn, 7);
            DUE.is("7 over 2", x.counterPair(0, 2), NONE);
            DUE.is("7 over 8", x.counterPair(8, 0), NONE);
            DUE.is("7 over 200", x.counterPair(-100, 100), NONE);
            DUE.is("7 over 7", x.counterPair(50, 57), 1000 * turn + 1);
        }
    }

    /** "NONE if there are no such weights": each part must become 0 */
    static void promise14NeedsEachPart() {
        for (int turn = 0; turn < 12; turn++) {
            for (int[] more : SINGLE_PARTS) {
                CrankLayout x = weightless();
                x.setWeight(1, turn, 10);
                for (int i = 0; i < more.length; i++) {
                    x.setWeight(-1, (more[i] + 6) % 12, 1);
                }
                int want = NONE;
                if (more.length == 1 && turn % 6 == more[0]) {
                    want = turn < 6 ? 1000 * (turn + 6) + 11 : 1000 * (turn - 6) + 9;
                }
                DUE.is("10 at " + turn + " and 1 at " + more[0], x.counterPair(4, 3), want);
            }
        }
    }

    /** "(besides those that there are)": also if there are eight, and none can be set */
    static void promise14TellsANinthAndATenth() {
        CrankLayout x = Make.shaft(0);
        x.setPlace(0, 10);
        for (int i = 0; i < 8; i++) {
            x.setWeight(1 + i, 6, 1);
        }
        // The moment is 100 - 36.
        DUE.is("counterPair(2, 0)", x.counterPair(2, 0), 6032);
    }

    /** "Tells": no weight is set, nothing is changed */
    static void promise14OnlyTells() {
        same(CrankLayout::new).after("counterPair(0, 10)", x -> x.counterPair(0, 10), 60);
        same(Make::full).after("counterPair(0, 10)", x -> x.counterPair(0, 10), NONE);
        same(Make::four).after("counterPair(0, 10)", x -> x.counterPair(0, 10), 0);
    }
}
