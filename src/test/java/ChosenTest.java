/** Promises 24 to 28: cylinders off, gaps and loads of the chosen firing. */
public final class ChosenTest {
    private static final int BAD_INDEX = -1000001;
    private static final int NOT_POSSIBLE = -1000003;
    private static final int NONE = -1000005;

    private static final Due DUE = new Due("ChosenTest");

    public static void main(String[] args) {
        promise24();
        promise25();
        promise26();
        promise26Sums();
        promise27();
        promise28();
        promise28Ties();
        DUE.end();
    }

    /** The slots are 0 for cylinder 0, 6 for 1, 18 for 2, 12 for 3. */
    private static CrankLayout chosen() {
        CrankLayout x = Make.four();
        x.choose(0);
        return x;
    }

    /** With two strokes; cylinder k fires in slot 12 - 2 * k, cylinder 0 in slot 0. */
    private static CrankLayout row() {
        CrankLayout x = Make.shaft(0, 2, 4, 6, 8, 10);
        x.setStrokes(2);
        x.choose(0);
        return x;
    }

    private static void promise24() {
        CrankLayout none = Make.four();
        DUE.is("turn(4, false) without a choice", none.turn(4, false), BAD_INDEX);
        DUE.is("turn(-1, false)", none.turn(-1, false), BAD_INDEX);
        DUE.is("turn(0, false) without a choice", none.turn(0, false), NOT_POSSIBLE);
        DUE.is("it stays on", none.cylinder(0, 3), 1);
        CrankLayout x = chosen();
        DUE.is("turn(4, true)", x.turn(4, true), BAD_INDEX);
        DUE.is("turn(1, true)", x.turn(1, true), 4);
        DUE.is("turn(1, false)", x.turn(1, false), 3);
        DUE.is("turn(1, false) again", x.turn(1, false), 3);
        DUE.is("off", x.cylinder(1, 3), 0);
        DUE.is("another is on", x.cylinder(2, 3), 1);
        DUE.is("its slot stays", x.cylinder(1, 4), 6);
        DUE.is("turn(0, false)", x.turn(0, false), 2);
        DUE.is("turn(3, false)", x.turn(3, false), 1);
        DUE.is("turn(2, false)", x.turn(2, false), 0);
        DUE.is("turn(1, true) then", x.turn(1, true), 1);
        DUE.is("on", x.cylinder(1, 3), 1);
    }

    private static void promise25() {
        DUE.is("without a choice", Make.four().longestGap(), NOT_POSSIBLE);
        CrankLayout x = chosen();
        DUE.is("all on", x.longestGap(), 6);
        x.turn(0, false);
        DUE.is("without 0", x.longestGap(), 12);
        x.turn(1, false);
        DUE.is("without 0 and 1", x.longestGap(), 18);
        x.turn(0, true);
        DUE.is("without 1", x.longestGap(), 12);
        x.turn(2, false);
        DUE.is("without 1 and 2", x.longestGap(), 12);
        x.turn(3, false);
        DUE.is("just 0", x.longestGap(), 24);
        x.turn(0, false);
        DUE.is("none", x.longestGap(), NONE);
        CrankLayout two = row();
        DUE.is("with two strokes", two.longestGap(), 2);
        for (int i = 0; i < 5; i++) {
            two.turn(i, false);
        }
        DUE.is("just one with two strokes", two.longestGap(), 12);
    }

    private static void promise26() {
        CrankLayout none = Make.four();
        DUE.is("bearing 5 without a choice", none.load(5, 0), BAD_INDEX);
        DUE.is("slot 24 without a choice", none.load(0, 24), BAD_INDEX);
        DUE.is("without a choice", none.load(4, 23), NOT_POSSIBLE);
        CrankLayout x = chosen();
        DUE.is("bearing 5", x.load(5, 0), BAD_INDEX);
        DUE.is("bearing -1", x.load(-1, 0), BAD_INDEX);
        DUE.is("slot 24", x.load(0, 24), BAD_INDEX);
        DUE.is("slot -1", x.load(0, -1), BAD_INDEX);
        int[] fires = {0, 6, 18, 12};
        for (int bearing = 0; bearing <= 4; bearing++) {
            for (int slot = 0; slot < 24; slot++) {
                int want = 0;
                for (int c = Math.max(0, bearing - 1); c <= Math.min(3, bearing); c++) {
                    int since = (slot - fires[c] + 24) % 24;
                    want += since == 0 ? 8 : since == 1 ? 4 : since == 2 ? 2 : since == 3 ? 1 : 0;
                }
                DUE.is("load(" + bearing + ", " + slot + ")", x.load(bearing, slot), want);
            }
        }
        DUE.is("slot 11 with two strokes", row().load(0, 11), 0);
        DUE.is("slot 12 with two strokes", row().load(0, 12), BAD_INDEX);
    }

    private static void promise26Sums() {
        CrankLayout x = row();
        int[] want = {10, 5, 2, 1, 0, 0, 0, 0, 0, 0, 8, 4};
        int[] zeroOff = {2, 1, 0, 0, 0, 0, 0, 0, 0, 0, 8, 4};
        for (int slot = 0; slot < 12; slot++) {
            DUE.is("load(1, " + slot + ")", x.load(1, slot), want[slot]);
        }
        x.turn(0, false);
        for (int slot = 0; slot < 12; slot++) {
            DUE.is("load(1, " + slot + ") without 0", x.load(1, slot), zeroOff[slot]);
            DUE.is("load(0, " + slot + ") without 0", x.load(0, slot), 0);
        }
        CrankLayout late = Make.shaft(1, 1);
        late.choose(0);
        int[] around = {4, 2, 1, 0};
        for (int slot = 0; slot < 4; slot++) {
            DUE.is("around the cycle, " + slot, late.load(2, slot), around[slot]);
        }
        DUE.is("around the cycle, 23", late.load(2, 23), 8);
    }

    private static void promise27() {
        CrankLayout none = Make.four();
        DUE.is("bearing 5 without a choice", none.peak(5), BAD_INDEX);
        DUE.is("without a choice", none.peak(0), NOT_POSSIBLE);
        CrankLayout x = row();
        DUE.is("peak(7)", x.peak(7), BAD_INDEX);
        DUE.is("peak(-1)", x.peak(-1), BAD_INDEX);
        int[] all = {8, 10, 10, 10, 10, 10, 8};
        for (int bearing = 0; bearing <= 6; bearing++) {
            DUE.is("peak(" + bearing + ")", x.peak(bearing), all[bearing]);
        }
        x.turn(0, false);
        DUE.is("peak(0) without 0", x.peak(0), 0);
        DUE.is("peak(1) without 0", x.peak(1), 8);
        x.turn(1, false);
        DUE.is("peak(1) without 0 and 1", x.peak(1), 0);
        DUE.is("peak(2) without 0 and 1", x.peak(2), 8);
        x.turn(1, true);
        DUE.is("peak(2) without 0", x.peak(2), 10);
        CrankLayout eight = Make.eight();
        eight.choose(0);
        // 0 1 3 2 7 6 4 5, three slots apart: beside bearing 2 are 1 and 2, nine apart.
        int[] three = {8, 9, 8, 9, 8, 9, 8, 9, 8};
        for (int bearing = 0; bearing <= 8; bearing++) {
            DUE.is("peak(" + bearing + ") of eight", eight.peak(bearing), three[bearing]);
        }
    }

    private static void promise28() {
        DUE.is("without a choice", Make.four().bestOff(), NOT_POSSIBLE);
        CrankLayout x = chosen();
        DUE.is("all alike", x.bestOff(), 0);
        DUE.is("nothing is turned off", x.longestGap(), 6);
        x.turn(0, false);
        DUE.is("the middle one", x.bestOff(), 3);
        x.turn(0, true);
        x.turn(1, false);
        DUE.is("the one opposite", x.bestOff(), 2);
        x.turn(2, false);
        DUE.is("two on", x.bestOff(), 0);
        x.turn(0, false);
        DUE.is("one on", x.bestOff(), NONE);
        x.turn(3, false);
        DUE.is("none on", x.bestOff(), NONE);
        CrankLayout one = Make.shaft(0);
        DUE.is("one without a choice", one.bestOff(), NOT_POSSIBLE);
        one.choose(0);
        DUE.is("just one", one.bestOff(), NONE);
    }

    private static void promise28Ties() {
        CrankLayout x = row();
        x.turn(2, false);
        // On are the slots 0, 10, 6, 4 and 2: a gap of 4 about slot 8 is there already.
        DUE.is("the lowest that adds no gap to another", x.bestOff(), 0);
        x.turn(0, false);
        // On are the slots 10, 6, 4 and 2: just without slot 4 no gap is longer than 4.
        DUE.is("the lowest of those left", x.bestOff(), 4);
    }
}
