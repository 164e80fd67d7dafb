/** kernel: its ranges, its numbers, and six of them. */
final class Promise04Test {
    private static final Checks CHECKS = new Checks();

    public static void main(String[] args) {
        weights();
        widths();
        numbers();
        alsoWithPieces();
        refusedOnesAreNone();
        CHECKS.finish();
    }

    private static Trial square() {
        Trial m = new Trial();
        CHECKS.rectangle(m, 10, 10, 40, 40);
        return m;
    }

    private static void weights() {
        CHECKS.sentence("weight -20 .. 20");
        int[] in = {-20, -19, -1, 0, 1, 19, 20};
        for (int weight : in) {
            Trial m = square();
            CHECKS.due("kernel(" + weight + ", 1)", m.kernel(weight, 1), 0);
            CHECKS.due("its image", m.image(25, 25), 9 * weight);
        }
        int[] out = {-21, 21, Integer.MIN_VALUE, Integer.MAX_VALUE};
        for (int weight : out) {
            CHECKS.changesNothing("kernel(" + weight + ", 1)", square(),
                t -> CHECKS.due("kernel(" + weight + ", 1)", t.kernel(weight, 1), -2));
        }
    }

    private static void widths() {
        CHECKS.sentence("width 0 .. 6");
        for (int width = 0; width <= 6; width++) {
            Trial m = square();
            CHECKS.due("kernel(1, " + width + ")", m.kernel(1, width), 0);
            CHECKS.due("its image", m.image(25, 25), (2 * width + 1) * (2 * width + 1));
        }
        int[] out = {-1, 7, Integer.MIN_VALUE, Integer.MAX_VALUE};
        for (int width : out) {
            CHECKS.changesNothing("kernel(1, " + width + ")", square(),
                t -> CHECKS.due("kernel(1, " + width + ")", t.kernel(1, width), -2));
        }
    }

    /** The same again, and one without a weight, are kernels too. */
    private static void numbers() {
        CHECKS.sentence("its number .. -4");
        Trial m = square();
        int[] weights = {3, 3, 0, -3, 1, 5};
        for (int i = 0; i < 6; i++) {
            CHECKS.due("kernel " + i, m.kernel(weights[i], 1), i);
        }
        CHECKS.changesNothing("a seventh", m, t -> CHECKS.due("a seventh", t.kernel(1, 1), -4));
        CHECKS.changesNothing("a seventh without a weight", m, t -> CHECKS.due("a seventh", t.kernel(0, 0), -4));
        CHECKS.due("image of six", m.image(25, 25), 9 * 9);
    }

    private static void alsoWithPieces() {
        CHECKS.sentence("A KERNEL, weight -20 .. 20, width 0 .. 6: its number");
        Trial m = square();
        m.kernel(1, 0);
        m.cut(48);
        CHECKS.dueErrors("width 0", m, 0, 0, 0, 0);
        CHECKS.due("kernel(20, 6) with pieces", m.kernel(20, 6), 1);
        CHECKS.due("image of both", m.image(25, 25), 20 * 169 + 1);
        CHECKS.dueErrors("width 6", m, 6, 6, 6, 6);
    }

    private static void refusedOnesAreNone() {
        CHECKS.sentence("-2, -4");
        Trial m = square();
        m.kernel(21, 0);
        m.kernel(0, 7);
        CHECKS.due("the first one that is taken", m.kernel(2, 0), 0);
        CHECKS.due("its image alone", m.image(25, 25), 2);
    }
}
