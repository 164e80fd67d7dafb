/** is: whether a cell is in the target, in the mask, or prints. */
final class Promise16Test {
    private static final Checks CHECKS = new Checks();

    public static void main(String[] args) {
        inTheTarget();
        inTheMask();
        prints();
        otherWhats();
        cellsThatAreNone();
        CHECKS.finish();
    }

    /** A square whose top and bottom are moved outward by 2 and its sides inward by 2. */
    private static Trial moved() {
        Trial m = new Trial();
        CHECKS.rectangle(m, 15, 15, 25, 25);
        m.kernel(1, 1);
        m.cut(48);
        m.shift(1, 2);
        m.shift(2, -2);
        return m;
    }

    private static void inTheTarget() {
        CHECKS.sentence("in THE TARGET (0)");
        CHECKS.dueCells("the target", moved(), 0, Checks.box(15, 15, 25, 25));
    }

    private static void inTheMask() {
        CHECKS.sentence("in THE MASK (what = 1)");
        CHECKS.dueCells("the mask", moved(), 1, Checks.box(15, 13, 25, 15), Checks.box(17, 15, 23, 25),
            Checks.box(15, 25, 25, 27));
    }

    private static void prints() {
        CHECKS.sentence("PRINTS (2)");
        Trial m = moved();
        CHECKS.dueCells("one cell around the mask", m, 2, Checks.box(14, 12, 26, 16), Checks.box(16, 14, 24, 26),
            Checks.box(14, 24, 26, 28));
        m.run(1, 9, 1, 6);
        m.cut(48);
        CHECKS.dueCells("all nine cells", m, 2, Checks.box(16, 16, 24, 24));
        m.run(1, 10, 1, 6);
        CHECKS.dueCells("more than all", m, 2);
    }

    private static void otherWhats() {
        CHECKS.sentence("what = 1 .. 0 .. 2 .. false for none");
        Trial m = CHECKS.plain(0, 0, 48, 48);
        for (int what = 0; what <= 2; what++) {
            CHECKS.due("is(5, 5, " + what + ")", m.is(5, 5, what), true);
        }
        int[] whats = {-1, 3, 4, Integer.MAX_VALUE, Integer.MIN_VALUE};
        for (int what : whats) {
            CHECKS.due("is(5, 5, " + what + ")", m.is(5, 5, what), false);
        }
    }

    private static void cellsThatAreNone() {
        CHECKS.sentence("false for none");
        Trial m = CHECKS.plain(0, 0, 48, 48);
        m.kernel(20, 6);
        int[] none = {-1, 48, 64, 69, -59, Integer.MAX_VALUE, Integer.MIN_VALUE};
        for (int c : none) {
            for (int what = 0; what <= 2; what++) {
                CHECKS.due("is(" + c + ", 5, " + what + ")", m.is(c, 5, what), false);
                CHECKS.due("is(5, " + c + ", " + what + ")", m.is(5, c, what), false);
            }
        }
        int[] some = {0, 47};
        for (int c : some) {
            for (int what = 0; what <= 2; what++) {
                CHECKS.due("is(" + c + ", 5, " + what + ")", m.is(c, 5, what), true);
                CHECKS.due("is(5, " + c + ", " + what + ")", m.is(5, c, what), true);
            }
        }
    }
}
