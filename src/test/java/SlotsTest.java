/** Promises 29 to 31: slots and the checksum. */
public final class SlotsTest {
    private static final int BAD_INDEX = -1000001;
    private static final int NOT_POSSIBLE = -1000003;
    private static final int NONE = -1000005;

    private static final Due DUE = new Due("SlotsTest");

    public static void main(String[] args) {
        promise29And30();
        keepsTheText();
        slotsAreApart();
        slotKeepsWhatItHas();
        promise31();
        promise31Values();
        DUE.end();
    }

    private static CrankLayout rich() {
        CrankLayout x = Make.eight();
        x.setMass(3, 55);
        x.setPlace(4, -66);
        x.setWeight(7, 7, 77);
        x.setWeight(-7, 1, 8);
        x.choose(5);
        x.turn(2, false);
        x.turn(6, false);
        return x;
    }

    private static void changeAll(CrankLayout x) {
        x.setStrokes(2);
        x.setCylinders(3);
        x.setThrow(1, 4);
        x.setThrow(2, 8);
        x.setMass(0, 1);
        x.setPlace(0, 1);
        x.setWeight(7, 7, 0);
        x.setWeight(-7, 1, 9);
        x.setWeight(0, 0, 4);
        x.choose(0);
        x.turn(0, false);
    }

    private static void promise29And30() {
        for (int slot = 0; slot < 2; slot++) {
            CrankLayout x = rich();
            DUE.is("save(2)", x.save(2), BAD_INDEX);
            DUE.is("save(-1)", x.save(-1), BAD_INDEX);
            DUE.is("restore(2)", x.restore(2), BAD_INDEX);
            DUE.is("restore(-1)", x.restore(-1), BAD_INDEX);
            DUE.is("restore of nothing", x.restore(slot), NOT_POSSIBLE);
            String before = Seen.shaft(x);
            DUE.is("save", x.save(slot), 8);
            DUE.holds("save changes nothing", before.equals(Seen.shaft(x)));
            DUE.is("the other slot stays empty", x.restore(1 - slot), NOT_POSSIBLE);
            changeAll(x);
            DUE.holds("all is changed", !before.equals(Seen.shaft(x)));
            DUE.is("restore", x.restore(slot), 8);
            DUE.holds("all is back", before.equals(Seen.shaft(x)));
            DUE.is("the strokes are back", x.setStrokes(4), 4);
        }
        CrankLayout two = Make.shaft(0, 6);
        two.setStrokes(2);
        two.save(0);
        two.setStrokes(4);
        two.restore(0);
        DUE.is("two strokes", two.orders(), 1);
        DUE.is("no choice", two.cylinder(0, 4), NONE);
    }

    private static void keepsTheText() {
        CrankLayout x = Make.four();
        Make.type(x, "1-2-");
        x.save(0);
        Make.type(x, "4-3");
        x.setThrow(1, 3);
        DUE.is("find() of another shaft", x.find(), NONE);
        x.restore(0);
        DUE.is("find() of the text as it is", x.find(), 0);
        DUE.is("its length", x.clearText(), 7);
    }

    private static void slotsAreApart() {
        CrankLayout x = new CrankLayout();
        x.setCylinders(3);
        x.save(0);
        x.setCylinders(5);
        x.save(1);
        x.setCylinders(7);
        DUE.is("restore(0)", x.restore(0), 3);
        DUE.is("restore(1)", x.restore(1), 5);
        DUE.is("restore(0) again", x.restore(0), 3);
        x.setCylinders(6);
        DUE.is("save(1) in place of what it keeps", x.save(1), 6);
        x.setCylinders(2);
        DUE.is("restore(1) then", x.restore(1), 6);
        DUE.is("restore(0) as before", x.restore(0), 3);
        DUE.is("n", x.setCylinders(1), 3);
    }

    private static void slotKeepsWhatItHas() {
        CrankLayout x = rich();
        String before = Seen.shaft(x);
        x.save(1);
        changeAll(x);
        x.restore(1);
        changeAll(x);
        x.restore(1);
        DUE.holds("a slot is not changed by a restored shaft", before.equals(Seen.shaft(x)));
        x.setMass(0, 3);
        x.setWeight(7, 7, 3);
        x.turn(0, false);
        x.restore(1);
        DUE.holds("nor are its rows", before.equals(Seen.shaft(x)));
    }

    private static void promise31() {
        checksumIsAsTold(new CrankLayout());
        checksumIsAsTold(Make.four());
        checksumIsAsTold(Make.shaft(1));
        checksumIsAsTold(Make.shaft(0, 1, 2, 3, 4, 5, 6, 7));
        CrankLayout x = rich();
        checksumIsAsTold(x);
        for (int i = 0; i < 8; i++) {
            x.turn(i, false);
        }
        checksumIsAsTold(x);
        changeAll(x);
        checksumIsAsTold(x);
    }

    private static void checksumIsAsTold(CrankLayout x) {
        int cylinders = 0;
        while (x.cylinder(cylinders, 0) != BAD_INDEX) {
            cylinders++;
        }
        long h = 31 * 137L + cylinders;
        for (int i = 0; i < cylinders; i++) {
            for (int what = 0; what <= 4; what++) {
                h = 31 * h + x.cylinder(i, what);
            }
        }
        for (int i = 0; x.weight(i, 0) != BAD_INDEX; i++) {
            for (int what = 0; what <= 2; what++) {
                h = 31 * h + x.weight(i, what);
            }
        }
        for (int vector = 0; vector <= 3; vector++) {
            h = 31 * h + x.vector(vector, false, false);
            h = 31 * h + x.vector(vector, false, true);
            h = 31 * h + x.vector(vector, true, false);
            h = 31 * h + x.vector(vector, true, true);
        }
        int[] single = {x.balanced(), x.isMirrored(), x.counterWeight(), x.orders(), x.bestOrder()};
        for (int value : single) {
            h = 31 * h + value;
        }
        if (x.longestGap() != NOT_POSSIBLE) {
            h = 31 * h + x.longestGap();
            h = 31 * h + x.bestOff();
            for (int bearing = 0; bearing <= cylinders; bearing++) {
                h = 31 * h + x.peak(bearing);
            }
        }
        DUE.is("checksum()", x.checksum(), h);
        DUE.is("checksum() again", x.checksum(), h);
    }

    private static void promise31Values() {
        CrankLayout x = Make.four();
        x.choose(0);
        x.turn(0, false);
        DUE.is("checksum() of four", x.checksum(), 8740004244258730551L);
        Make.type(x, "1-2");
        x.save(0);
        DUE.is("checksum() without text and slots", x.checksum(), 8740004244258730551L);
    }
}
