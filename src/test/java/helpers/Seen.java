/**
 * What a layout answers, as a text, so that two layouts can be compared. The document promises
 * 512 calls of an object and no more, so what is asked is kept small.
 */
final class Seen {
    private static final int BAD_INDEX = -1000001;
    private static final int NOT_POSSIBLE = -1000003;

    private Seen() {
    }

    /** The shaft, its weights and the chosen firing; nothing is changed, at most 95 calls. */
    static String shaft(CrankLayout x) {
        StringBuilder out = new StringBuilder();
        int cylinders = 0;
        for (; x.cylinder(cylinders, 0) != BAD_INDEX; cylinders++) {
            for (int what = 0; what <= 4; what++) {
                out.append(x.cylinder(cylinders, what)).append(' ');
            }
        }
        for (int weight = 0; x.weight(weight, 0) != BAD_INDEX; weight++) {
            for (int what = 0; what <= 2; what++) {
                out.append(x.weight(weight, what)).append(' ');
            }
        }
        for (int bearing = 0; bearing <= cylinders; bearing++) {
            out.append(x.peak(bearing)).append(' ');
        }
        out.append(x.orders()).append(' ').append(x.longestGap()).append(' ');
        return out.append(x.checksum()).toString();
    }

    /**
     * All that a layout holds: with the strokes, the text and what both slots keep. The layout is
     * used up by it; at most 300 calls.
     */
    static String all(CrankLayout x) {
        StringBuilder out = new StringBuilder(shaft(x));
        out.append(" text ").append(x.faultPosition()).append(' ').append(x.find());
        out.append(' ').append(x.clearText());
        out.append(" strokes ").append(x.setStrokes(4));
        for (int slot = 0; slot <= 1; slot++) {
            out.append(" slot ").append(slot);
            if (x.restore(slot) == NOT_POSSIBLE) {
                out.append(" empty");
            } else {
                out.append(' ').append(shaft(x)).append(" strokes ").append(x.setStrokes(4));
            }
        }
        return out.toString();
    }
}
