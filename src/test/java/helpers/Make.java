/** Makes layouts that several tests begin with. */
final class Make {
    private Make() {
    }

    static CrankLayout shaft(int... turns) {
        CrankLayout x = new CrankLayout();
        x.setCylinders(turns.length);
        for (int i = 0; i < turns.length; i++) {
            x.setThrow(i, turns[i]);
        }
        return x;
    }

    static CrankLayout twoStrokes(int... turns) {
        CrankLayout x = shaft(turns);
        x.setStrokes(2);
        return x;
    }

    /** A shaft on which each cylinder can fire in the slot that is given for it. */
    static CrankLayout firing(int strokes, int... slots) {
        int[] turns = new int[slots.length];
        for (int i = 0; i < slots.length; i++) {
            turns[i] = (24 - slots[i]) % 12;
        }
        return strokes == 2 ? twoStrokes(turns) : shaft(turns);
    }

    /** Four in line: order 0 is 0 1 3 2, order 1 is 0 2 3 1. */
    static CrankLayout four() {
        return shaft(0, 6, 6, 0);
    }

    /** Eight cylinders with the slots 0 and 12, 3 and 15, 6 and 18, 9 and 21 for two each. */
    static CrankLayout eight() {
        return shaft(0, 9, 3, 6, 6, 3, 9, 0);
    }

    /** One cylinder, in slot 11 or 23, which is chosen and off. */
    static CrankLayout one() {
        CrankLayout x = shaft(1);
        x.choose(0);
        x.turn(0, false);
        type(x, "1");
        x.save(1);
        return x;
    }

    /**
     * Everything there: eight cylinders, eight weights, both slots, a text that tells order 7;
     * order 5, which is 0 6 3 5 7 1 4 2, is chosen, and the cylinders 2 and 6 are off.
     */
    static CrankLayout full() {
        CrankLayout x = twoStrokes(0, 4, 8);
        x.choose(0);
        x.turn(1, false);
        x.setWeight(0, 6, 30);
        x.save(0);
        x.setWeight(0, 6, 0);
        x.setCylinders(5);
        x.setMass(4, 99);
        x.save(1);
        x.setStrokes(4);
        int[] turns = {0, 9, 3, 6, 6, 3, 9, 0};
        x.setCylinders(8);
        for (int i = 0; i < 8; i++) {
            x.setThrow(i, turns[i]);
            x.setMass(i, 11 * i);
            x.setPlace(i, -99 + 25 * i);
        }
        eightWeights(x);
        x.choose(5);
        x.turn(2, false);
        x.turn(6, false);
        type(x, "5-6-8-2-4-3-1-7");
        return x;
    }

    /** Weights 0 to 7 in this order, set in another one. */
    static void eightWeights(CrankLayout x) {
        x.setWeight(3, 7, 7);
        x.setWeight(100, 11, 999);
        x.setWeight(0, 0, 20);
        x.setWeight(-100, 0, 1);
        x.setWeight(-1, 11, 300);
        x.setWeight(0, 6, 5);
        x.setWeight(100, 10, 40);
        x.setWeight(-100, 5, 6);
    }

    static void type(CrankLayout x, String text) {
        for (int i = 0; i < text.length(); i++) {
            x.append(text.charAt(i));
        }
    }
}
