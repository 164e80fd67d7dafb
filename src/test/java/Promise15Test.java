/** shift: more move by a rule, within 6, and how many moves are others. */
final class Promise15Test {
    private static final Checks CHECKS = new Checks();

    public static void main(String[] args) {
        refusals();
        rules();
        withinSix();
        flatOnesStay();
        maskFollows();
        CHECKS.finish();
    }

    private static void refusals() {
        int[][] wrong = {
            {-1, 0}, {4, 0}, {0, 7}, {0, -7},
            {Integer.MAX_VALUE, 1}, {0, Integer.MAX_VALUE}, {3, Integer.MIN_VALUE}
        };
        Trial none = CHECKS.plain(10, 10, 20, 20);
        Trial m = CHECKS.plain(10, 10, 20, 20);
        m.cut(48);
        for (int[] w : wrong) {
            String call = "shift(" + w[0] + ", " + w[1] + ")";
            CHECKS.due(call + " without pieces", none.shift(w[0], w[1]), -2);
            CHECKS.due(call, m.shift(w[0], w[1]), -2);
        }
        CHECKS.due("shift(3, 6) without pieces", none.shift(3, 6), -3);
        CHECKS.dueMoves("behind refusals", m, 0, 0, 0, 0);
    }

    /** A top side of four pieces, a right one of three, and so on. */
    private static Trial sevenPairs() {
        Trial m = CHECKS.plain(10, 10, 30, 25);
        CHECKS.due("cut(5)", m.cut(5), 14);
        return m;
    }

    private static void rules() {
        Trial m = sevenPairs();
        CHECKS.due("shift(0, 1)", m.shift(0, 1), 14);
        CHECKS.dueMoves("all", m, 1, 1, 1, 1, 1, 1, 1, 1, 1, 1, 1, 1, 1, 1);
        m = sevenPairs();
        CHECKS.due("shift(1, 2)", m.shift(1, 2), 8);
        CHECKS.dueMoves("along x", m, 2, 2, 2, 2, 0, 0, 0, 2, 2, 2, 2, 0, 0, 0);
        m = sevenPairs();
        CHECKS.due("shift(2, -3)", m.shift(2, -3), 6);
        CHECKS.dueMoves("along y", m, 0, 0, 0, 0, -3, -3, -3, 0, 0, 0, 0, -3, -3, -3);
        m = sevenPairs();
        CHECKS.due("shift(3, 4)", m.shift(3, 4), 8);
        CHECKS.dueMoves("first and last", m, 4, 0, 0, 4, 4, 0, 4, 4, 0, 0, 4, 4, 0, 4);
        m.cut(48);
        CHECKS.due("shift(3, -1), each is both", m.shift(3, -1), 4);
        CHECKS.dueMoves("each is both", m, -1, -1, -1, -1);
    }

    private static void withinSix() {
        Trial m = sevenPairs();
        CHECKS.due("shift(0, 0)", m.shift(0, 0), 0);
        CHECKS.due("shift(0, 4)", m.shift(0, 4), 14);
        CHECKS.due("shift(1, 2)", m.shift(1, 2), 8);
        CHECKS.due("only those below 6", m.shift(0, 5), 6);
        CHECKS.dueMoves("6 at most", m, 6, 6, 6, 6, 6, 6, 6, 6, 6, 6, 6, 6, 6, 6);
        CHECKS.due("no more", m.shift(0, 6), 0);
        CHECKS.due("shift(0, -6)", m.shift(0, -6), 14);
        CHECKS.dueMoves("back", m, 0, 0, 0, 0);
        m.shift(0, -6);
        CHECKS.due("no less", m.shift(0, -6), 0);
        CHECKS.dueMoves("-6 at least", m, -6, -6, -6, -6);
    }

    private static void flatOnesStay() {
        Trial m = new Trial();
        CHECKS.closed(m, 4, 4, 20, 4, 20, 20, 12, 20, 12, 4, 28, 4, 28, 30, 4, 30);
        CHECKS.due("cut(8)", m.cut(8), 20);
        CHECKS.due("shift(0, -6)", m.shift(0, -6), 18);
        CHECKS.due("shift(3, 1)", m.shift(3, 1), 13);
        CHECKS.dueMoves("flat", m, -5, 0, -5, -5, -5, -5, -5, 0, -5);
    }

    private static void maskFollows() {
        Trial m = CHECKS.plain(10, 10, 20, 20);
        m.cut(48);
        m.shift(1, 3);
        CHECKS.dueCells("along x outward", m, 1, Checks.box(10, 7, 20, 23));
        m.shift(1, -5);
        CHECKS.dueCells("along x inward", m, 1, Checks.box(10, 12, 20, 18));
        CHECKS.dueCells("what prints", m, 2, Checks.box(10, 12, 20, 18));
        CHECKS.dueCells("the target", m, 0, Checks.box(10, 10, 20, 20));
    }
}
