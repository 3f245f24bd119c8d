/** Promises 20 to 23: the text, its faults and the order that it tells. */
public final class TextTest {
    private static final int BAD_VALUE = -1000002;
    private static final int NOT_POSSIBLE = -1000003;
    private static final int FULL = -1000004;
    private static final int NONE = -1000005;

    private static final Due DUE = new Due("TextTest");

    public static void main(String[] args) {
        promise20();
        promise21();
        promise22Four();
        promise22OtherNumbers();
        promise23();
        DUE.end();
    }

    private static void promise20() {
        CrankLayout x = new CrankLayout();
        DUE.is("append(-1)", x.append(-1), BAD_VALUE);
        DUE.is("append(128)", x.append(128), BAD_VALUE);
        DUE.is("append(305), a byte of 49", x.append(305), BAD_VALUE);
        DUE.is("append(0)", x.append(0), 1);
        DUE.is("append(127)", x.append(127), 2);
        for (int length = 3; length <= 40; length++) {
            DUE.is("append to " + length, x.append('1'), length);
        }
        DUE.is("append to 41", x.append('1'), FULL);
        DUE.is("append(128) to 41", x.append(128), BAD_VALUE);
        DUE.is("length", x.clearText(), 40);
        DUE.is("append behind clearText()", x.append('1'), 1);
    }

    private static void promise21() {
        CrankLayout x = Make.four();
        DUE.is("clearText() of none", x.clearText(), 0);
        Make.type(x, "1-2-4-3");
        DUE.is("find()", x.find(), 0);
        DUE.is("clearText()", x.clearText(), 7);
        DUE.is("clearText() again", x.clearText(), 0);
        DUE.is("faultPosition()", x.faultPosition(), 0);
        Make.type(x, "1-3");
        DUE.is("new text", x.faultPosition(), 3);
        Make.type(x, "-4-2");
        DUE.is("find() then", x.find(), 1);
    }

    private static void faultIs(int cylinders, String text, int want) {
        CrankLayout x = new CrankLayout();
        x.setCylinders(cylinders);
        Make.type(x, text);
        DUE.is("fault of " + text + " with " + cylinders, x.faultPosition(), want);
        if (want != NONE) {
            DUE.is("find() of " + text, x.find(), NOT_POSSIBLE);
        }
    }

    private static void promise22Four() {
        faultIs(4, "", 0);
        faultIs(4, "1", 1);
        faultIs(4, "1-", 2);
        faultIs(4, "1-2-3-", 6);
        faultIs(4, "1-2-3-4", NONE);
        faultIs(4, "4-2-1-3", NONE);
        faultIs(4, "1-2-3-4-", 7);
        faultIs(4, "1-2-3-44", 7);
        faultIs(4, "1-2-3-4 ", 7);
        faultIs(4, "1-2-3-5", 6);
        faultIs(4, "0-1-2-3", 0);
        faultIs(4, "1-2-2-4", 4);
        faultIs(4, "1-2-3-1", 6);
        faultIs(4, "12-3-4", 1);
        faultIs(4, "1,2,3,4", 1);
        faultIs(4, "1--2", 2);
        faultIs(4, "-1-2-3-4", 0);
        faultIs(4, " 1-2-3-4", 0);
        faultIs(4, "1-2-x-4", 4);
        faultIs(4, "1-2-3\u0000", 5);
        faultIs(4, "a", 0);
        faultIs(4, "1-9", 2);
        faultIs(4, "1-Q-2-3", 2);
        faultIs(4, "1-2-3-4-1-2-3-4-1-2-3-4-1-2-3-4-1-2-3-4-", 7);
    }

    private static void promise22OtherNumbers() {
        faultIs(1, "", 0);
        faultIs(1, "1", NONE);
        faultIs(1, "2", 0);
        faultIs(1, "1-", 1);
        faultIs(1, "11", 1);
        faultIs(2, "2-1", NONE);
        faultIs(2, "2-2", 2);
        faultIs(8, "8-7-6-5-4-3-2-1", NONE);
        faultIs(8, "8-7-6-5-4-3-2-9", 14);
        faultIs(8, "8-7-6-5-4-3-2-8", 14);
        faultIs(8, "8-7-6-5-4-3-2-1-", 15);
        faultIs(8, "8-7-6-5-4-3-2-", 14);
        CrankLayout x = new CrankLayout();
        Make.type(x, "1-2-3");
        DUE.is("for 4", x.faultPosition(), 5);
        x.setCylinders(3);
        DUE.is("for 3", x.faultPosition(), NONE);
        x.setCylinders(2);
        DUE.is("for 2", x.faultPosition(), 3);
    }

    private static void findIs(CrankLayout x, String text, int want) {
        x.clearText();
        Make.type(x, text);
        DUE.is("find() of " + text, x.find(), want);
    }

    private static void promise23() {
        CrankLayout four = Make.four();
        String[] texts = {"1-2-4-3", "2-4-3-1", "4-3-1-2", "3-1-2-4"};
        for (String text : texts) {
            findIs(four, text, 0);
        }
        findIs(four, "1-3-4-2", 1);
        findIs(four, "2-1-3-4", 1);
        findIs(four, "1-2-3-4", NONE);
        findIs(four, "1-4-2-3", NONE);
        findIs(four, "1-2-4", NOT_POSSIBLE);
        four.setStrokes(2);
        findIs(four, "1-2-4-3", NONE);
        CrankLayout eight = Make.eight();
        findIs(eight, "1-2-4-3-8-7-5-6", 0);
        findIs(eight, "6-1-2-4-3-8-7-5", 0);
        findIs(eight, "8-2-4-3-1-7-5-6", 7);
        findIs(eight, "5-6-8-2-4-3-1-7", 7);
        findIs(eight, "1-2-3-4-5-6-7-8", NONE);
        findIs(Make.shaft(9), "1", 0);
        findIs(Make.shaft(9, 9), "2-1", 0);
        findIs(Make.shaft(9, 8), "2-1", NONE);
    }
}
