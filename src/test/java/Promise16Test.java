/** is: whether a cell is in the target, in the mask, or prints. */
final class Promise16Test {
    private static final Checks CHECKS = new Checks();

    public static void main(String[] args) {
        whats();
        none();
        beyondTheGrid();
        inwardFromTheGridsEdge();
        CHECKS.due("the second one's piece is later", piecesInTurn(true), true);
        CHECKS.due("the first one's piece is later", piecesInTurn(false), false);
        CHECKS.finish();
    }

    private static void whats() {
        Trial m = new Trial();
        CHECKS.rectangle(m, 15, 15, 25, 25);
        m.kernel(1, 1);
        m.cut(48);
        m.shift(1, 2);
        m.shift(2, -2);
        CHECKS.dueCells("target", m, 0, Checks.box(15, 15, 25, 25));
        CHECKS.due("top, put in", m.is(20, 13, 1), true);
        CHECKS.due("top, behind it", m.is(20, 12, 1), false);
        CHECKS.due("left, taken out", m.is(16, 20, 1), false);
        CHECKS.due("left, behind it", m.is(17, 20, 1), true);
        CHECKS.due("top corner, taken out inside alone", m.is(15, 14, 1), true);
        CHECKS.due("prints beside the mask", m.is(20, 12, 2), true);
        CHECKS.due("prints beside the mask", m.is(16, 20, 2), true);
        CHECKS.due("prints no farther", m.is(20, 11, 2), false);
        CHECKS.due("prints no farther", m.is(15, 20, 2), false);
        m.run(1, 9, 1, 6);
        m.cut(48);
        CHECKS.dueCells("all nine", m, 2, Checks.box(16, 16, 24, 24));
    }

    private static void none() {
        Trial m = CHECKS.plain(0, 0, 48, 48);
        m.kernel(20, 6);
        int[] whats = {-1, 3, Integer.MAX_VALUE, Integer.MIN_VALUE};
        for (int what : whats) {
            CHECKS.due("is(5, 5, " + what + ")", m.is(5, 5, what), false);
        }
        int[] numbers = {-1, 48, 64, 69, -59, Integer.MAX_VALUE, Integer.MIN_VALUE};
        for (int c : numbers) {
            for (int what = 0; what <= 2; what++) {
                CHECKS.due("is(" + c + ", 5, " + what + ")", m.is(c, 5, what), false);
                CHECKS.due("is(5, " + c + ", " + what + ")", m.is(5, c, what), false);
            }
        }
    }

    private static void beyondTheGrid() {
        Trial m = CHECKS.plain(2, 2, 46, 46);
        m.cut(48);
        CHECKS.due("shift(0, 6)", m.shift(0, 6), 4);
        CHECKS.due("up to the grid's edge", m.is(0, 20, 1) && m.is(47, 20, 1), true);
        CHECKS.due("up to the grid's edge", m.is(20, 0, 1) && m.is(20, 47, 1), true);
        CHECKS.due("the corners are beside none", m.is(1, 1, 1) || m.is(46, 46, 1), false);
    }

    private static void inwardFromTheGridsEdge() {
        Trial m = CHECKS.plain(0, 0, 48, 48);
        m.cut(48);
        m.shift(0, -2);
        CHECKS.dueCells("two rows out all round", m, 1, Checks.box(2, 2, 46, 46));
    }

    /**
     * The large one's middle piece takes (18, 25) out, the small one's left piece puts it in: what
     * is asked is whether it is in the mask then.
     */
    private static boolean piecesInTurn(boolean largeFirst) {
        Trial m = new Trial();
        if (largeFirst) {
            CHECKS.rectangle(m, 10, 10, 20, 40);
        }
        CHECKS.rectangle(m, 20, 22, 30, 28);
        if (!largeFirst) {
            CHECKS.rectangle(m, 10, 10, 20, 40);
        }
        m.cut(10);
        m.shift(2, -2);
        m.shift(3, 4);
        CHECKS.due("beside the small one's piece", m.is(18, 21, 1), false);
        return m.is(18, 25, 1);
    }
}
