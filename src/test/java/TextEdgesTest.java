import java.util.function.Supplier;

/** The edges of the promises 20 to 23: a method for each sentence, which stands above it. */
public final class TextEdgesTest {
    private static final int BAD_VALUE = -1000002;
    private static final int NOT_POSSIBLE = -1000003;
    private static final int FULL = -1000004;
    private static final int NONE = -1000005;
    private static final int LEAST = Integer.MIN_VALUE;
    private static final int MOST = Integer.MAX_VALUE;

    private static final String IN_ORDER = "1-2-3-4-5-6-7-8";

    private static final Due DUE = new Due("TextEdgesTest");

    public static void main(String[] args) throws Exception {
        Every.test(TextEdgesTest.class, DUE);
    }

    private static Same same(Supplier<CrankLayout> state) {
        return new Same(DUE, state);
    }

    private static CrankLayout with(int cylinders, String text) {
        CrankLayout x = new CrankLayout();
        x.setCylinders(cylinders);
        Make.type(x, text);
        return x;
    }

    /** Four in line, with a text of 40 bytes that begins with an order. */
    private static CrankLayout fullText() {
        CrankLayout x = Make.four();
        Make.type(x, "1-2-4-3-1-2-4-3-1-2-4-3-1-2-4-3-1-2-4-3-");
        return x;
    }

    private static void faultIs(int cylinders, String text, int want) {
        same(() -> with(cylinders, text)).after("fault of " + text + " with " + cylinders,
            x -> x.faultPosition(), want);
    }

    private static void findIs(Supplier<CrankLayout> shaft, String text, int want) {
        CrankLayout x = shaft.get();
        Make.type(x, text);
        DUE.is("find() of " + text, x.find(), want);
    }

    // ---- promise 20

    /** "0 to 127": every one is taken */
    static void promise20TakesZeroTo127() {
        CrankLayout x = new CrankLayout();
        for (int letter = 0; letter <= 127; letter++) {
            if (letter % 40 == 0) {
                x.clearText();
            }
            DUE.is("append(" + letter + ")", x.append(letter), letter % 40 + 1);
        }
    }

    /** "0 to 127": what lies beside */
    static void promise20RefusesMinusOneAnd128() {
        for (int letter : new int[] {LEAST, -128, -1, 128, 255, 256, 256 + '1', 65536 + '1', MOST}) {
            String call = "append(" + letter + ")";
            same(CrankLayout::new).after(call, x -> x.append(letter), BAD_VALUE);
            same(Make::full).after(call, x -> x.append(letter), BAD_VALUE);
        }
    }

    /** "FULL if it has 40 bytes": the fortieth is taken, the next one is refused */
    static void promise20TakesForty() {
        CrankLayout x = new CrankLayout();
        for (int length = 1; length <= 40; length++) {
            DUE.is("append to " + length, x.append('1'), length);
        }
        DUE.is("append to 41", x.append('1'), FULL);
        DUE.is("clearText()", x.clearText(), 40);
    }

    /** "FULL if it has 40 bytes": nothing is changed, at neither end of the text */
    static void promise20ChangesNothingWhenFull() {
        for (int letter : new int[] {0, '-', '1', '9', 127}) {
            same(TextEdgesTest::fullText).after("append(" + letter + ")", x -> x.append(letter), FULL);
        }
    }

    /** "BAD_VALUE; FULL": with 40 bytes a wrong letter is a wrong one */
    static void promise20TellsBadValueBeforeFull() {
        for (int letter : new int[] {LEAST, -1, 128, MOST}) {
            same(TextEdgesTest::fullText).after("append(" + letter + ")", x -> x.append(letter), BAD_VALUE);
        }
    }

    /** "Returns the length of the text then": the text alone is changed */
    static void promise20KeepsTheRest() {
        CrankLayout x = Make.full();
        String before = Seen.shaft(x);
        DUE.is("append('-')", x.append('-'), 16);
        DUE.holds("the shaft stays", Seen.shaft(x).equals(before));
    }

    // ---- promise 21

    /** "Returns the length that it had": nothing, one byte, and 40 */
    static void promise21TellsTheLength() {
        DUE.is("nothing", new CrankLayout().clearText(), 0);
        DUE.is("one byte", with(4, "x").clearText(), 1);
        DUE.is("39 bytes", with(4, IN_ORDER + IN_ORDER + "---------").clearText(), 39);
        DUE.is("40 bytes", fullText().clearText(), 40);
    }

    /** "Empties the text": then it is empty, and there is room for 40 again */
    static void promise21EmptiesTheText() {
        CrankLayout x = fullText();
        x.clearText();
        DUE.is("clearText() again", x.clearText(), 0);
        DUE.is("faultPosition()", x.faultPosition(), 0);
        DUE.is("find()", x.find(), NOT_POSSIBLE);
        for (int length = 1; length <= 40; length++) {
            DUE.is("append to " + length, x.append('1'), length);
        }
        DUE.is("append to 41", x.append('1'), FULL);
    }

    /** of the text before nothing is left, though the new one is shorter */
    static void promise21LeavesNothingBehind() {
        CrankLayout x = Make.four();
        Make.type(x, "1-2-4-3");
        x.clearText();
        Make.type(x, "1-2-4");
        DUE.is("faultPosition()", x.faultPosition(), 5);
        DUE.is("find()", x.find(), NOT_POSSIBLE);
        Make.type(x, "-3");
        DUE.is("find() then", x.find(), 0);
        x.clearText();
        Make.type(x, "1111111111111111");
        x.clearText();
        Make.type(x, "3-1-2-4");
        DUE.is("find() at last", x.find(), 0);
    }

    /** it empties the text, and nothing else */
    static void promise21KeepsTheRest() {
        CrankLayout x = Make.full();
        String before = Seen.shaft(x);
        x.clearText();
        DUE.holds("the shaft stays", Seen.shaft(x).equals(before));
        DUE.is("restore(0)", x.restore(0), 3);
        DUE.is("restore(1)", x.restore(1), 5);
        same(CrankLayout::new).after("of none", y -> y.clearText(), 0);
    }

    // ---- promise 22

    /** "or its length if it ends too early": from the empty text on, for every n */
    static void promise22EndsTooEarly() {
        for (int n = 1; n <= 8; n++) {
            for (int length = 0; length < 2 * n - 1; length++) {
                faultIs(n, IN_ORDER.substring(0, length), length);
            }
        }
    }

    /** "NONE if it has no fault": all cylinders, each just once, and nothing more */
    static void promise22HasNoFault() {
        for (int n = 1; n <= 8; n++) {
            faultIs(n, IN_ORDER.substring(0, 2 * n - 1), NONE);
        }
        faultIs(8, "8-7-6-5-4-3-2-1", NONE);
        faultIs(3, "2-3-1", NONE);
    }

    /** "whatever stands behind the last cylinder is a fault": any letter, for every n */
    static void promise22HasSomethingBehind() {
        for (int n = 1; n <= 8; n++) {
            String order = IN_ORDER.substring(0, 2 * n - 1);
            faultIs(n, order + "-", 2 * n - 1);
            faultIs(n, order + (char) ('1' + n), 2 * n - 1);
            faultIs(n, order + "-" + (char) ('1' + n), 2 * n - 1);
        }
        for (char letter = 0; letter <= 127; letter++) {
            DUE.is("behind all: " + (int) letter, with(8, IN_ORDER + letter).faultPosition(), 15);
            DUE.is("behind one: " + (int) letter, with(1, "1" + letter).faultPosition(), 1);
        }
    }

    /** "(so from 1 to n)": for every n the last one that there is, and the first that is not */
    static void promise22HasNoSuchCylinder() {
        for (int n = 1; n <= 8; n++) {
            faultIs(n, "" + n, n == 1 ? NONE : 1);
            faultIs(n, "" + (n + 1), 0);
            faultIs(n, "0", 0);
        }
        faultIs(8, "8-7-6-5-4-3-2-0", 14);
        faultIs(8, "8-7-6-5-4-3-2-9", 14);
    }

    /** "each a digit": of all letters the digits 1 to n alone, at the first and a later place */
    static void promise22HasNoDigit() {
        for (int n : new int[] {2, 4, 8}) {
            for (char letter = 0; letter <= 127; letter++) {
                boolean digit = letter >= '1' && letter < '1' + n;
                DUE.is("first: " + (int) letter, with(n, "" + letter).faultPosition(), digit ? 1 : 0);
                int then = letter == '1' || !digit ? 2 : n == 2 ? NONE : 3;
                DUE.is("second: " + (int) letter, with(n, "1-" + letter).faultPosition(), then);
            }
        }
    }

    /** "or for the second time": at once, and from the last one to the first one */
    static void promise22HasACylinderTwice() {
        faultIs(2, "1-1", 2);
        faultIs(2, "2-2", 2);
        for (int first = 1; first <= 7; first++) {
            String text = IN_ORDER.substring(0, 14) + first;
            faultIs(8, text, 14);
        }
        faultIs(8, "8-8", 2);
        faultIs(8, "8-1-8", 4);
    }

    /** "separated by hyphens": of all letters the hyphen alone, at the first and the last gap */
    static void promise22HasNoHyphen() {
        for (char letter = 0; letter <= 127; letter++) {
            boolean hyphen = letter == '-';
            DUE.is("first: " + (int) letter, with(2, "1" + letter).faultPosition(), hyphen ? 2 : 1);
            String text = "1-2-3-4-5-6-7" + letter + "8";
            DUE.is("last: " + (int) letter, with(8, text).faultPosition(), hyphen ? NONE : 13);
        }
        faultIs(4, "1--2", 2);
        faultIs(4, "-1-2-3-4", 0);
    }

    /** "the index ... of the first byte with which the text does not follow": of several */
    static void promise22TellsTheFirstFault() {
        faultIs(4, "1-2-2-2", 4);
        faultIs(4, "5-5-5-5", 0);
        faultIs(4, "1+2+3+4", 1);
        faultIs(4, "1-2-9-2-3-4-5", 4);
    }

    /** a text of 40 bytes */
    static void promise22HasFortyBytes() {
        same(TextEdgesTest::fullText).after("of four", x -> x.faultPosition(), 7);
        StringBuilder ones = new StringBuilder();
        for (int i = 0; i < 20; i++) {
            ones.append("1-");
        }
        faultIs(1, ones.toString(), 1);
        faultIs(8, IN_ORDER + ones.substring(15), 15);
    }

    /** "the numbers of all cylinders": of those that there are now */
    static void promise22GoesWithTheCylinders() {
        CrankLayout x = with(8, "3-2-1");
        int[] want = {0, 0, NONE, 5, 5, 5, 5, 5};
        for (int n = 1; n <= 8; n++) {
            x.setCylinders(n);
            DUE.is("with " + n, x.faultPosition(), want[n - 1]);
        }
    }

    // ---- promise 23

    /** "NOT_POSSIBLE if the text has a fault": nothing, too little, too much, something else */
    static void promise23RefusesFaults() {
        String[] faults = {"", "1", "1-", "1-2-4", "1-2-4-", "1-2-4-3-", "1-2-4-33", "0-1-3-2",
            "1-2-4-5", "1-2-4-1", "1243", " 1-2-4-3"};
        for (String text : faults) {
            same(() -> {
                CrankLayout x = Make.four();
                x.choose(1);
                Make.type(x, text);
                return x;
            }).after("find() of " + text, x -> x.find(), NOT_POSSIBLE);
        }
    }

    /** "NOT_POSSIBLE ...; NONE": with a fault also if there are no orders */
    static void promise23TellsNotPossibleBeforeNone() {
        same(() -> with(4, "1-2-4")).after("no orders", x -> x.find(), NOT_POSSIBLE);
        same(() -> with(7, "")).after("no orders of seven", x -> x.find(), NOT_POSSIBLE);
    }

    /** "NONE if there is no such order": none at all, or others */
    static void promise23TellsNone() {
        same(() -> with(4, "1-2-4-3")).after("no orders", x -> x.find(), NONE);
        same(() -> with(5, "1-2-3-4-5")).after("no orders of five", x -> x.find(), NONE);
        findIs(Make::four, "1-2-3-4", NONE);
        findIs(Make::four, "1-4-2-3", NONE);
        findIs(Make::four, "1-4-3-2", NONE);
        // The slots are 0, 8 and 16: the order goes one way around, and not the other one.
        findIs(() -> Make.shaft(0, 4, 8), "1-2-3", 0);
        findIs(() -> Make.shaft(0, 4, 8), "3-2-1", NONE);
    }

    /** "wherever in it the sequence begins (it goes around)": at every place, for the ends */
    static void promise23GoesAround() {
        goesAround(Make::eight, "1-2-4-3-8-7-5-6", 0);
        goesAround(Make::eight, "1-7-5-6-8-2-4-3", 7);
        goesAround(Make::four, "1-2-4-3", 0);
        goesAround(Make::four, "1-3-4-2", 1);
        goesAround(() -> Make.shaft(0, 4, 8), "1-2-3", 0);
        goesAround(() -> Make.shaft(0, 4, 8), "1-3-2", NONE);
        goesAround(() -> Make.shaft(0, 0), "1-2", 0);
        goesAround(() -> Make.shaft(0), "1", 0);
        goesAround(Make::eight, "1-2-4-3-8-7-6-5", NONE);
    }

    private static void goesAround(Supplier<CrankLayout> shaft, String order, int want) {
        String twice = order + "-" + order;
        for (int at = 0; at <= order.length(); at += 2) {
            findIs(shaft, twice.substring(at, at + order.length()), want);
        }
    }

    /** "Looks for": it is not chosen, nothing is changed */
    static void promise23OnlyAsks() {
        same(Make::full).after("find()", x -> x.find(), 7);
        same(Make::one).after("find() of one", x -> x.find(), 0);
    }
}
