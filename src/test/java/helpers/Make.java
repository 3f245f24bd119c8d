/** Makes layouts that several tests begin with. */
final class Make {
    private Make() {
    }

    static CrankLayout shaft(int... turns) {
        CrankLayout x = new CrankLayout();
        x.setCylinders(turns.length);
        for (int i = 0; i < turns.length; i++) {
            x.setThrow(i, turns[i]);
        }
        return x;
    }

    /** Four in line: order 0 is 0 1 3 2, order 1 is 0 2 3 1. */
    static CrankLayout four() {
        return shaft(0, 6, 6, 0);
    }

    /** Eight cylinders with the slots 0 and 12, 3 and 15, 6 and 18, 9 and 21 for two each. */
    static CrankLayout eight() {
        return shaft(0, 9, 3, 6, 6, 3, 9, 0);
    }

    static void type(CrankLayout x, String text) {
        for (int i = 0; i < text.length(); i++) {
            x.append(text.charAt(i));
        }
    }

    /** All that can be seen of a layout without a change of it, but for the text's bytes. */
    static String seen(CrankLayout x) {
        StringBuilder out = new StringBuilder();
        for (int i = -1; i < 9; i++) {
            for (int what = -1; what < 6; what++) {
                out.append(x.cylinder(i, what)).append(' ');
                out.append(x.weight(i, what)).append(' ');
            }
        }
        for (int vector = -1; vector < 5; vector++) {
            for (int part = 0; part < 4; part++) {
                out.append(x.vector(vector, part > 1, part % 2 == 1)).append(' ');
            }
        }
        out.append(x.balanced()).append(' ').append(x.isMirrored()).append(' ');
        out.append(x.counterWeight()).append(' ').append(x.counterPair(0, 10)).append(' ');
        out.append(x.orders()).append(' ').append(x.bestOrder()).append(' ');
        for (int order = -1; order < 9; order++) {
            for (int place = -1; place < 9; place++) {
                out.append(x.order(order, place)).append(' ');
            }
            out.append(x.orderCost(order, 0)).append(' ').append(x.orderCost(order, 1)).append(' ');
        }
        out.append(x.longestGap()).append(' ').append(x.bestOff()).append(' ');
        for (int bearing = -1; bearing < 10; bearing++) {
            for (int slot = -1; slot < 25; slot++) {
                out.append(x.load(bearing, slot)).append(' ');
            }
            out.append(x.peak(bearing)).append(' ');
        }
        out.append(x.faultPosition()).append(' ').append(x.find()).append(' ');
        return out.append(x.checksum()).toString();
    }
}
