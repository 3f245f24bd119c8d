import java.util.function.Supplier;

/** The edges of the promises 1 to 9: a method for each sentence, which stands above it. */
public final class ShaftEdgesTest {
    private static final int BAD_INDEX = -1000001;
    private static final int BAD_VALUE = -1000002;
    private static final int NOT_POSSIBLE = -1000003;
    private static final int FULL = -1000004;
    private static final int NONE = -1000005;
    private static final int LEAST = Integer.MIN_VALUE;
    private static final int MOST = Integer.MAX_VALUE;

    /** The throws of Make.full(), and the slots of its chosen firing. */
    private static final int[] TURNS = {0, 9, 3, 6, 6, 3, 9, 0};
    private static final int[] SLOTS = {0, 15, 21, 6, 18, 9, 3, 12};

    private static final Due DUE = new Due("ShaftEdgesTest");

    public static void main(String[] args) throws Exception {
        Every.test(ShaftEdgesTest.class, DUE);
    }

    private static Same same(Supplier<CrankLayout> state) {
        return new Same(DUE, state);
    }

    private static void cylinderIs(CrankLayout x, int cylinder, int... want) {
        for (int what = 0; what < want.length; what++) {
            DUE.is("cylinder(" + cylinder + ", " + what + ")", x.cylinder(cylinder, what), want[what]);
        }
    }

    private static void weightIs(CrankLayout x, int weight, int... want) {
        for (int what = 0; what < want.length; what++) {
            DUE.is("weight(" + weight + ", " + what + ")", x.weight(weight, what), want[what]);
        }
    }

    // ---- promise 1

    /** "with n from 1 to 8, at first 4" */
    static void promise1HasFourCylinders() {
        CrankLayout x = new CrankLayout();
        DUE.is("the last one", x.cylinder(3, 0), 0);
        DUE.is("none behind it", x.cylinder(4, 0), BAD_INDEX);
        DUE.is("none before the first", x.cylinder(-1, 0), BAD_INDEX);
        DUE.is("n", x.setCylinders(4), 4);
    }

    /** "all throws are 0, all masses 10, and cylinder k has the place 10 * k", at first too */
    static void promise1HasTheValuesOfASetN() {
        CrankLayout x = new CrankLayout();
        for (int k = 0; k < 4; k++) {
            cylinderIs(x, k, 0, 10, 10 * k);
        }
    }

    /** "at first 24" slots; the strokes are 4 then */
    static void promise1HasFourStrokes() {
        CrankLayout x = new CrankLayout();
        DUE.is("the last slot", x.load(0, 23), NOT_POSSIBLE);
        DUE.is("none behind it", x.load(0, 24), BAD_INDEX);
        DUE.is("strokes", x.setStrokes(4), 4);
    }

    /** "without weights" */
    static void promise1HasNoWeight() {
        CrankLayout x = new CrankLayout();
        DUE.is("weight(0, 0)", x.weight(0, 0), BAD_INDEX);
        DUE.is("number of weights", x.setWeight(0, 0, 0), 0);
        DUE.is("the first one", x.setWeight(0, 0, 1), 1);
    }

    /** "with an empty text" */
    static void promise1HasAnEmptyText() {
        DUE.is("faultPosition()", new CrankLayout().faultPosition(), 0);
        DUE.is("clearText()", new CrankLayout().clearText(), 0);
        DUE.is("append('1')", new CrankLayout().append('1'), 1);
    }

    /** "and empty slots" */
    static void promise1HasEmptySlots() {
        same(CrankLayout::new)
            .after("restore(0)", x -> x.restore(0), NOT_POSSIBLE)
            .after("restore(1)", x -> x.restore(1), NOT_POSSIBLE);
    }

    /** "at first ... none is chosen" */
    static void promise1HasNothingChosen() {
        CrankLayout x = new CrankLayout();
        DUE.is("cylinder(3, 4)", x.cylinder(3, 4), NONE);
        DUE.is("longestGap()", x.longestGap(), NOT_POSSIBLE);
    }

    /** "and all cylinders are on" */
    static void promise1HasAllOn() {
        CrankLayout x = new CrankLayout();
        for (int k = 0; k < 4; k++) {
            DUE.is("cylinder(" + k + ", 3)", x.cylinder(k, 3), 1);
        }
    }

    /** "everything as at first", whatever other objects there are */
    static void promise1IsApartFromOtherObjects() {
        String first = Seen.all(new CrankLayout());
        CrankLayout beside = new CrankLayout();
        CrankLayout full = Make.full();
        DUE.holds("one made before", Seen.all(beside).equals(first));
        DUE.holds("one made then", Seen.all(new CrankLayout()).equals(first));
        DUE.holds("the other one", Seen.all(full).equals(Seen.all(Make.full())));
    }

    /** "An object is used for at most 512 calls" */
    static void promise1StandsFor512Calls() {
        CrankLayout x = Make.four();
        for (int call = 5; call < 509; call += 3) {
            x.append('1');
            x.save(call % 2);
            x.setWeight(call % 101, call % 12, call % 7);
        }
        x.clearText();
        DUE.is("call 511", x.choose(1), 0);
        DUE.is("call 512", x.cylinder(1, 4), 18);
    }

    // ---- promise 2

    /** "1 to 8", and "Returns the previous n" */
    static void promise2TakesOneToEight() {
        CrankLayout x = new CrankLayout();
        int before = 4;
        for (int n : new int[] {1, 8, 2, 7, 3, 6, 4, 5, 1, 1, 8, 8}) {
            DUE.is("setCylinders(" + n + ")", x.setCylinders(n), before);
            DUE.is("the last one of " + n, x.cylinder(n - 1, 0), 0);
            DUE.is("none behind " + n, x.cylinder(n, 0), BAD_INDEX);
            before = n;
        }
    }

    /** "1 to 8": what lies beside */
    static void promise2RefusesZeroAndNine() {
        for (int n : new int[] {LEAST, -8, -1, 0, 9, 10, 256 + 4, MOST}) {
            String call = "setCylinders(" + n + ")";
            same(CrankLayout::new).after(call, x -> x.setCylinders(n), BAD_VALUE);
            same(Make::one).after(call, x -> x.setCylinders(n), BAD_VALUE);
            same(Make::full).after(call, x -> x.setCylinders(n), BAD_VALUE);
        }
    }

    /** "When n is set, all throws are 0, all masses 10, and cylinder k has the place 10 * k." */
    static void promise2SetsTheCylindersAnew() {
        for (int n = 1; n <= 8; n++) {
            CrankLayout x = Make.full();
            x.setCylinders(n);
            for (int k = 0; k < n; k++) {
                cylinderIs(x, k, 0, 10, 10 * k, 1, NONE);
            }
        }
    }

    /** the same, for cylinders that went away and come again */
    static void promise2SetsThoseAnewThatWereAway() {
        CrankLayout x = Make.full();
        x.setCylinders(1);
        x.setCylinders(8);
        for (int k = 0; k < 8; k++) {
            cylinderIs(x, k, 0, 10, 10 * k, 1, NONE);
        }
    }

    /** "Weights ... stay." */
    static void promise2KeepsTheWeights() {
        CrankLayout x = Make.full();
        x.setCylinders(1);
        weightIs(x, 0, -100, 0, 1);
        weightIs(x, 7, 100, 11, 999);
        DUE.is("number of weights", x.setWeight(50, 5, 0), 8);
    }

    /** "... and strokes stay." */
    static void promise2KeepsTheStrokes() {
        CrankLayout x = Make.twoStrokes(0, 6);
        x.setCylinders(3);
        DUE.is("two strokes", x.setStrokes(4), 2);
        x.setCylinders(3);
        DUE.is("four strokes", x.setStrokes(2), 4);
    }

    /** the text and the slots are not told to change */
    static void promise2KeepsTextAndSlots() {
        CrankLayout x = Make.full();
        x.setCylinders(2);
        DUE.is("clearText()", x.clearText(), 15);
        DUE.is("restore(0)", x.restore(0), 3);
        DUE.is("restore(1)", x.restore(1), 5);
    }

    /** "whenever n ... [is] set (also to what [it is] already), none is chosen" */
    static void promise2DropsTheChoice() {
        CrankLayout x = Make.full();
        DUE.is("setCylinders(8)", x.setCylinders(8), 8);
        DUE.is("cylinder(0, 4)", x.cylinder(0, 4), NONE);
        DUE.is("peak(0)", x.peak(0), NOT_POSSIBLE);
        CrankLayout one = Make.one();
        DUE.is("setCylinders(1)", one.setCylinders(1), 1);
        DUE.is("cylinder(0, 4) of one", one.cylinder(0, 4), NONE);
    }

    /** "and all cylinders are on", then too */
    static void promise2TurnsAllOn() {
        CrankLayout x = Make.full();
        x.setCylinders(8);
        DUE.is("cylinder(2, 3)", x.cylinder(2, 3), 1);
        DUE.is("cylinder(6, 3)", x.cylinder(6, 3), 1);
    }

    /** the even firings are those of the new shaft at once, for every n */
    static void promise2FindsTheFiringsAnew() {
        CrankLayout x = Make.full();
        int[] fourStrokes = {1, 1, 0, 0, 0, 0, 0, 0};
        for (int n = 8; n >= 1; n--) {
            x.setCylinders(n);
            DUE.is("orders() of " + n, x.orders(), fourStrokes[n - 1]);
        }
        x.setStrokes(2);
        for (int n = 1; n <= 8; n++) {
            x.setCylinders(n);
            DUE.is("orders() of " + n + " with two strokes", x.orders(), n == 1 ? 1 : 0);
        }
    }

    // ---- promise 3

    /** "2 or 4", and "Returns the previous number of strokes" */
    static void promise3TakesTwoAndFour() {
        CrankLayout x = new CrankLayout();
        int before = 4;
        for (int strokes : new int[] {2, 4, 4, 2, 2, 4}) {
            DUE.is("setStrokes(" + strokes + ")", x.setStrokes(strokes), before);
            DUE.is("the last slot", x.load(0, 6 * strokes - 1), NOT_POSSIBLE);
            DUE.is("none behind it", x.load(0, 6 * strokes), BAD_INDEX);
            before = strokes;
        }
    }

    /** "2 or 4": what lies beside and between */
    static void promise3RefusesOthers() {
        for (int strokes : new int[] {LEAST, -4, -2, -1, 0, 1, 3, 5, 6, 8, 12, 24, MOST}) {
            String call = "setStrokes(" + strokes + ")";
            same(CrankLayout::new).after(call, x -> x.setStrokes(strokes), BAD_VALUE);
            same(Make::one).after(call, x -> x.setStrokes(strokes), BAD_VALUE);
            same(Make::full).after(call, x -> x.setStrokes(strokes), BAD_VALUE);
            same(() -> Make.twoStrokes(1, 7)).after(call, x -> x.setStrokes(strokes), BAD_VALUE);
        }
    }

    /** "whenever ... the strokes are set (also to what they are already), none is chosen" */
    static void promise3DropsTheChoice() {
        CrankLayout x = Make.full();
        DUE.is("setStrokes(4)", x.setStrokes(4), 4);
        DUE.is("cylinder(0, 4)", x.cylinder(0, 4), NONE);
        CrankLayout two = Make.twoStrokes(1, 7);
        two.choose(0);
        DUE.is("setStrokes(2)", two.setStrokes(2), 2);
        DUE.is("cylinder(0, 4) of two", two.cylinder(0, 4), NONE);
    }

    /** "and all cylinders are on", then too */
    static void promise3TurnsAllOn() {
        CrankLayout x = Make.full();
        x.setStrokes(4);
        DUE.is("cylinder(2, 3)", x.cylinder(2, 3), 1);
        x = Make.full();
        x.setStrokes(2);
        DUE.is("cylinder(6, 3)", x.cylinder(6, 3), 1);
    }

    /** it sets the strokes, and nothing else but the choice */
    static void promise3KeepsTheRest() {
        CrankLayout x = Make.full();
        x.setStrokes(2);
        for (int k = 0; k < 8; k++) {
            cylinderIs(x, k, TURNS[k], 11 * k, -99 + 25 * k);
        }
        weightIs(x, 7, 100, 11, 999);
        DUE.is("find()", x.find(), NONE);
        DUE.is("restore(0)", x.restore(0), 3);
    }

    // ---- promise 4

    /** "a cylinder": 0 to n - 1; "0 to 11"; "Returns its previous throw" */
    static void promise4TakesZeroToEleven() {
        for (int n : new int[] {1, 4, 8}) {
            CrankLayout x = new CrankLayout();
            x.setCylinders(n);
            for (int c : new int[] {0, n - 1}) {
                int before = x.cylinder(c, 0);
                for (int turn : new int[] {11, 0, 5, 6, 6, 11}) {
                    DUE.is("setThrow(" + c + ", " + turn + ")", x.setThrow(c, turn), before);
                    DUE.is("throw", x.cylinder(c, 0), turn);
                    before = turn;
                }
            }
        }
    }

    /** "a cylinder": what lies beside; "BAD_INDEX; BAD_VALUE": with a wrong turn as well */
    static void promise4RefusesOtherCylinders() {
        for (int turn : new int[] {0, 11, -1, 12, LEAST, MOST}) {
            refusesCylinder("setThrow", turn, CrankLayout::setThrow);
        }
    }

    /** "0 to 11": what lies beside */
    static void promise4RefusesMinusOneAndTwelve() {
        for (int turn : new int[] {LEAST, -12, -1, 12, 13, 256, MOST}) {
            refusesValue("setThrow", turn, CrankLayout::setThrow);
        }
    }

    /** "whenever ... a throw ... [is] set (also to what [it is] already), none is chosen" */
    static void promise4DropsTheChoice() {
        for (int c = 0; c < 8; c++) {
            CrankLayout x = Make.full();
            x.setThrow(c, x.cylinder(c, 0));
            DUE.is("cylinder(0, 4) behind " + c, x.cylinder(0, 4), NONE);
        }
        CrankLayout x = Make.full();
        x.setThrow(7, 1);
        DUE.is("cylinder(0, 4)", x.cylinder(0, 4), NONE);
    }

    /** "and all cylinders are on", then too */
    static void promise4TurnsAllOn() {
        CrankLayout x = Make.full();
        x.setThrow(0, 0);
        DUE.is("cylinder(2, 3)", x.cylinder(2, 3), 1);
        DUE.is("cylinder(6, 3)", x.cylinder(6, 3), 1);
    }

    /** "its" throw: those beside it stay, at both ends too */
    static void promise4KeepsTheOthers() {
        for (int c : new int[] {0, 7}) {
            CrankLayout x = Make.full();
            x.setThrow(c, 10);
            for (int k = 0; k < 8; k++) {
                cylinderIs(x, k, k == c ? 10 : TURNS[k], 11 * k, -99 + 25 * k);
            }
        }
    }

    // ---- promise 5

    /** "0 to 99"; "Returns its previous mass" */
    static void promise5TakesZeroTo99() {
        for (int n : new int[] {1, 4, 8}) {
            CrankLayout x = new CrankLayout();
            x.setCylinders(n);
            for (int c : new int[] {0, n - 1}) {
                int before = x.cylinder(c, 1);
                for (int mass : new int[] {0, 99, 99, 1, 98, 0}) {
                    DUE.is("setMass(" + c + ", " + mass + ")", x.setMass(c, mass), before);
                    DUE.is("mass", x.cylinder(c, 1), mass);
                    before = mass;
                }
            }
        }
    }

    /** "a cylinder": what lies beside; "BAD_INDEX; BAD_VALUE": with a wrong mass as well */
    static void promise5RefusesOtherCylinders() {
        for (int mass : new int[] {0, 99, -1, 100, LEAST, MOST}) {
            refusesCylinder("setMass", mass, CrankLayout::setMass);
        }
    }

    /** "0 to 99": what lies beside */
    static void promise5RefusesMinusOneAndHundred() {
        for (int mass : new int[] {LEAST, -99, -1, 100, 101, 256, MOST}) {
            refusesValue("setMass", mass, CrankLayout::setMass);
        }
    }

    /** "its" mass: the others, the choice and those that are off stay */
    static void promise5KeepsTheRest() {
        for (int c : new int[] {0, 7}) {
            CrankLayout x = Make.full();
            x.setMass(c, 5);
            for (int k = 0; k < 8; k++) {
                int on = k == 2 || k == 6 ? 0 : 1;
                cylinderIs(x, k, TURNS[k], k == c ? 5 : 11 * k, -99 + 25 * k, on, SLOTS[k]);
            }
        }
    }

    // ---- promise 6

    /** "-100 to 100"; "Returns its previous place" */
    static void promise6TakesMinusHundredToHundred() {
        for (int n : new int[] {1, 4, 8}) {
            CrankLayout x = new CrankLayout();
            x.setCylinders(n);
            for (int c : new int[] {0, n - 1}) {
                int before = x.cylinder(c, 2);
                for (int place : new int[] {-100, 100, 100, 0, -99, 99, -100}) {
                    DUE.is("setPlace(" + c + ", " + place + ")", x.setPlace(c, place), before);
                    DUE.is("place", x.cylinder(c, 2), place);
                    before = place;
                }
            }
        }
    }

    /** "a cylinder": what lies beside; "BAD_INDEX; BAD_VALUE": with a wrong place as well */
    static void promise6RefusesOtherCylinders() {
        for (int place : new int[] {-100, 0, 100, -101, 101, LEAST, MOST}) {
            refusesCylinder("setPlace", place, CrankLayout::setPlace);
        }
    }

    /** "-100 to 100": what lies beside */
    static void promise6RefusesWhatIsFarther() {
        for (int place : new int[] {LEAST, -256, -101, 101, 102, 256, MOST}) {
            refusesValue("setPlace", place, CrankLayout::setPlace);
        }
    }

    /** "its" place: the others, the choice and those that are off stay */
    static void promise6KeepsTheRest() {
        for (int c : new int[] {0, 7}) {
            CrankLayout x = Make.full();
            x.setPlace(c, -5);
            for (int k = 0; k < 8; k++) {
                int on = k == 2 || k == 6 ? 0 : 1;
                cylinderIs(x, k, TURNS[k], 11 * k, k == c ? -5 : -99 + 25 * k, on, SLOTS[k]);
            }
        }
    }

    private interface Setter {
        int set(CrankLayout x, int cylinder, int value);
    }

    private static void refusesCylinder(String name, int value, Setter setter) {
        refusesCylinder(CrankLayout::new, 4, name, value, setter);
        refusesCylinder(Make::one, 1, name, value, setter);
        refusesCylinder(Make::full, 8, name, value, setter);
    }

    private static void refusesCylinder(
            Supplier<CrankLayout> state, int n, String name, int value, Setter setter) {
        for (int c : new int[] {LEAST, -1, n, n + 1, MOST}) {
            String call = name + "(" + c + ", " + value + ") of " + n;
            same(state).after(call, x -> setter.set(x, c, value), BAD_INDEX);
        }
    }

    private static void refusesValue(String name, int value, Setter setter) {
        refusesValue(CrankLayout::new, 4, name, value, setter);
        refusesValue(Make::one, 1, name, value, setter);
        refusesValue(Make::full, 8, name, value, setter);
    }

    private static void refusesValue(
            Supplier<CrankLayout> state, int n, String name, int value, Setter setter) {
        for (int c : new int[] {0, n - 1}) {
            String call = name + "(" + c + ", " + value + ") of " + n;
            same(state).after(call, x -> setter.set(x, c, value), BAD_VALUE);
        }
    }

    // ---- promise 7

    /** place "-100 to 100" */
    static void promise7TakesPlacesToBothEnds() {
        CrankLayout x = new CrankLayout();
        DUE.is("place -100", x.setWeight(-100, 3, 4), 1);
        DUE.is("place 100", x.setWeight(100, 3, 4), 2);
        weightIs(x, 0, -100, 3, 4);
        weightIs(x, 1, 100, 3, 4);
    }

    /** place "-100 to 100": what lies beside; "BAD_VALUE; FULL" */
    static void promise7RefusesOtherPlaces() {
        for (int place : new int[] {LEAST, -101, 101, MOST}) {
            refusesWeight(place, 0, 1);
            refusesWeight(place, 11, 0);
            refusesWeight(place, 12, 1000);
        }
    }

    /** turn "0 to 11" */
    static void promise7TakesTurnsToBothEnds() {
        CrankLayout x = new CrankLayout();
        DUE.is("turn 11", x.setWeight(5, 11, 4), 1);
        DUE.is("turn 0", x.setWeight(5, 0, 4), 2);
        weightIs(x, 0, 5, 0, 4);
        weightIs(x, 1, 5, 11, 4);
    }

    /** turn "0 to 11": what lies beside; "BAD_VALUE; FULL" */
    static void promise7RefusesOtherTurns() {
        for (int turn : new int[] {LEAST, -1, 12, MOST}) {
            refusesWeight(0, turn, 1);
            refusesWeight(100, turn, 0);
            refusesWeight(3, turn, -1);
        }
    }

    /** mass "0 for none, 1 to 999" */
    static void promise7TakesMassesToBothEnds() {
        CrankLayout x = new CrankLayout();
        DUE.is("mass 1", x.setWeight(0, 0, 1), 1);
        weightIs(x, 0, 0, 0, 1);
        DUE.is("mass 999", x.setWeight(0, 0, 999), 1);
        weightIs(x, 0, 0, 0, 999);
        DUE.is("mass 0", x.setWeight(0, 0, 0), 0);
        DUE.is("weight(0, 2)", x.weight(0, 2), BAD_INDEX);
    }

    /** mass "0 for none, 1 to 999": what lies beside; "BAD_VALUE; FULL" */
    static void promise7RefusesOtherMasses() {
        for (int mass : new int[] {LEAST, -999, -1, 1000, 65536 + 5, MOST}) {
            refusesWeight(0, 0, mass);
            refusesWeight(-100, 11, mass);
            refusesWeight(100, 11, mass);
        }
    }

    private static void refusesWeight(int place, int turn, int mass) {
        String call = "setWeight(" + place + ", " + turn + ", " + mass + ")";
        same(CrankLayout::new).after(call, x -> x.setWeight(place, turn, mass), BAD_VALUE);
        same(Make::one).after(call, x -> x.setWeight(place, turn, mass), BAD_VALUE);
        same(Make::full).after(call, x -> x.setWeight(place, turn, mass), BAD_VALUE);
    }

    /** "or takes it away", where there is none: nothing is changed */
    static void promise7TakesNothingAway() {
        same(CrankLayout::new).after("of no weights", x -> x.setWeight(0, 0, 0), 0);
        same(Make::full)
            .after("the turn is another", x -> x.setWeight(100, 9, 0), 8)
            .after("the place is another", x -> x.setWeight(99, 11, 0), 8)
            .after("before all", x -> x.setWeight(-100, 4, 0), 8)
            .after("the ends", x -> x.setWeight(-100, 11, 0), 8);
    }

    /** "or takes it away": the first one, one between, the last one, the only one */
    static void promise7TakesAway() {
        CrankLayout x = new CrankLayout();
        Make.eightWeights(x);
        DUE.is("the first one", x.setWeight(-100, 0, 0), 7);
        weightIs(x, 0, -100, 5, 6);
        weightIs(x, 6, 100, 11, 999);
        DUE.is("no further one", x.weight(7, 0), BAD_INDEX);
        DUE.is("the last one", x.setWeight(100, 11, 0), 6);
        weightIs(x, 5, 100, 10, 40);
        DUE.is("one between", x.setWeight(0, 0, 0), 5);
        weightIs(x, 1, -1, 11, 300);
        weightIs(x, 2, 0, 6, 5);
        weightIs(x, 3, 3, 7, 7);
        weightIs(x, 4, 100, 10, 40);
        CrankLayout one = new CrankLayout();
        one.setWeight(4, 4, 4);
        DUE.is("the only one", one.setWeight(4, 4, 0), 0);
        DUE.is("none is left", one.weight(0, 0), BAD_INDEX);
        DUE.is("it comes again", one.setWeight(4, 4, 9), 1);
        weightIs(one, 0, 4, 4, 9);
    }

    /** "at most 8 of them", "FULL if there are 8": the eighth is taken, the ninth is refused */
    static void promise7TakesEight() {
        CrankLayout x = new CrankLayout();
        for (int i = 1; i <= 8; i++) {
            DUE.is("weight " + i, x.setWeight(0, 12 - i, i), i);
        }
        weightIs(x, 0, 0, 4, 8);
        weightIs(x, 7, 0, 11, 1);
        DUE.is("a ninth", x.setWeight(0, 3, 1), FULL);
    }

    /** "FULL if there are 8, and none with this place and turn" */
    static void promise7IsFullForAnother() {
        same(Make::full)
            .after("the same place", x -> x.setWeight(100, 9, 1), FULL)
            .after("the same turn", x -> x.setWeight(99, 11, 999), FULL)
            .after("before all", x -> x.setWeight(-100, 4, 5), FULL)
            .after("between", x -> x.setWeight(0, 3, 5), FULL)
            .after("behind all", x -> x.setWeight(100, 0, 5), FULL);
    }

    /** "in place of the one with this place and turn", also if there are 8 */
    static void promise7IsNotFullForTheSame() {
        CrankLayout x = Make.full();
        DUE.is("the first one", x.setWeight(-100, 0, 2), 8);
        DUE.is("one between", x.setWeight(0, 6, 999), 8);
        DUE.is("the last one", x.setWeight(100, 11, 1), 8);
        weightIs(x, 0, -100, 0, 2);
        weightIs(x, 4, 0, 6, 999);
        weightIs(x, 7, 100, 11, 1);
        DUE.is("no further one", x.weight(8, 0), BAD_INDEX);
    }

    /** "(and the mass is not 0)": taking away is never FULL */
    static void promise7IsNotFullForNone() {
        same(Make::full).after("setWeight(50, 5, 0)", x -> x.setWeight(50, 5, 0), 8);
        CrankLayout x = Make.full();
        DUE.is("one of the eight", x.setWeight(0, 6, 0), 7);
        DUE.is("then there is room", x.setWeight(50, 5, 1), 8);
        DUE.is("for one", x.setWeight(51, 5, 1), FULL);
    }

    /** it sets a weight, and nothing else: the choice stays, and those that are off */
    static void promise7KeepsTheRest() {
        CrankLayout x = Make.full();
        x.setWeight(0, 6, 0);
        x.setWeight(1, 1, 1);
        DUE.is("cylinder(2, 3)", x.cylinder(2, 3), 0);
        DUE.is("cylinder(1, 4)", x.cylinder(1, 4), 15);
        DUE.is("cylinder(7, 1)", x.cylinder(7, 1), 77);
    }

    // ---- promise 8

    /** "counted from 0 in the order of places" */
    static void promise8CountsByPlaces() {
        CrankLayout x = new CrankLayout();
        int[] places = {1, -1, 100, 0, -100, 99, -99};
        for (int place : places) {
            x.setWeight(place, 6, 101 + place);
        }
        int[] sorted = {-100, -99, -1, 0, 1, 99, 100};
        for (int i = 0; i < sorted.length; i++) {
            weightIs(x, i, sorted[i], 6, 101 + sorted[i]);
        }
    }

    /** "of several at the same place in the order of turns" */
    static void promise8CountsByTurnsThen() {
        CrankLayout x = new CrankLayout();
        int[] turns = {5, 11, 1, 0, 10, 6};
        for (int turn : turns) {
            x.setWeight(7, turn, 1 + turn);
        }
        int[] sorted = {0, 1, 5, 6, 10, 11};
        for (int i = 0; i < sorted.length; i++) {
            weightIs(x, i, 7, sorted[i], 1 + sorted[i]);
        }
    }

    /** places come before turns */
    static void promise8PlacesComeFirst() {
        CrankLayout x = new CrankLayout();
        Make.eightWeights(x);
        int[][] want = {{-100, 0, 1}, {-100, 5, 6}, {-1, 11, 300}, {0, 0, 20}, {0, 6, 5},
            {3, 7, 7}, {100, 10, 40}, {100, 11, 999}};
        for (int i = 0; i < want.length; i++) {
            weightIs(x, i, want[i]);
        }
    }

    /** "the number of a weight": what lies beside; "BAD_INDEX; BAD_VALUE" */
    static void promise8RefusesOtherNumbers() {
        for (int what : new int[] {0, 2, -1, 3, LEAST, MOST}) {
            for (int weight : new int[] {LEAST, -1, 0, 1, 8, MOST}) {
                String call = "weight(" + weight + ", " + what + ")";
                same(CrankLayout::new).after(call, x -> x.weight(weight, what), BAD_INDEX);
                if (weight != 0 && weight != 1) {
                    same(Make::full).after(call, x -> x.weight(weight, what), BAD_INDEX);
                }
            }
        }
        CrankLayout x = new CrankLayout();
        x.setWeight(0, 0, 5);
        DUE.is("weight(0, 2)", x.weight(0, 2), 5);
        DUE.is("weight(1, 2)", x.weight(1, 2), BAD_INDEX);
    }

    /** "0 for its place, 1 for its turn, 2 for its mass": what lies beside */
    static void promise8RefusesOtherWhats() {
        for (int what : new int[] {LEAST, -1, 3, 4, MOST}) {
            same(Make::full)
                .after("weight(0, " + what + ")", x -> x.weight(0, what), BAD_VALUE)
                .after("weight(7, " + what + ")", x -> x.weight(7, what), BAD_VALUE);
        }
    }

    // ---- promise 9

    /** "a cylinder": 0 to n - 1 */
    static void promise9TellsTheFirstAndTheLast() {
        CrankLayout x = Make.full();
        cylinderIs(x, 0, 0, 0, -99, 1, 0);
        cylinderIs(x, 7, 0, 77, 76, 1, 12);
        cylinderIs(Make.one(), 0, 1, 10, 0, 0, 11);
    }

    /** "3 for 1 if it is on and 0 if it is off" */
    static void promise9TellsOnAndOff() {
        CrankLayout x = Make.full();
        for (int k = 0; k < 8; k++) {
            DUE.is("cylinder(" + k + ", 3)", x.cylinder(k, 3), k == 2 || k == 6 ? 0 : 1);
        }
    }

    /** "4 for the slot in which it fires" */
    static void promise9TellsTheSlot() {
        CrankLayout x = Make.full();
        for (int k = 0; k < 8; k++) {
            DUE.is("cylinder(" + k + ", 4)", x.cylinder(k, 4), SLOTS[k]);
        }
    }

    /** "(NONE if no firing is chosen)", and "only if no error applies" */
    static void promise9TellsNoSlot() {
        same(CrankLayout::new)
            .after("cylinder(0, 4)", x -> x.cylinder(0, 4), NONE)
            .after("cylinder(3, 4)", x -> x.cylinder(3, 4), NONE)
            .after("cylinder(4, 4)", x -> x.cylinder(4, 4), BAD_INDEX)
            .after("cylinder(-1, 4)", x -> x.cylinder(-1, 4), BAD_INDEX)
            .after("cylinder(0, 5)", x -> x.cylinder(0, 5), BAD_VALUE);
    }

    /** "a cylinder": what lies beside; "BAD_INDEX; BAD_VALUE" */
    static void promise9RefusesOtherCylinders() {
        for (int what : new int[] {0, 4, -1, 5, LEAST, MOST}) {
            refusesCylinder("cylinder", what, CrankLayout::cylinder);
        }
    }

    /** what is 0 to 4: what lies beside */
    static void promise9RefusesOtherWhats() {
        for (int what : new int[] {LEAST, -1, 5, 6, MOST}) {
            refusesValue("cylinder", what, CrankLayout::cylinder);
        }
    }

    /** "Returns this number": asking changes nothing */
    static void promise9OnlyAsks() {
        for (int what = 0; what <= 4; what++) {
            int asked = what;
            int want = new int[] {6, 33, -24, 1, 6}[what];
            same(Make::full).after("cylinder(3, " + what + ")", x -> x.cylinder(3, asked), want);
        }
    }
}
