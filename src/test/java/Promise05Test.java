/** cut: how many pieces, where they go from and to, their middles, and what a cut leaves. */
final class Promise05Test {
    private static final Checks CHECKS = new Checks();

    public static void main(String[] args) {
        refusals();
        counts();
        mostPieces();
        cutFromTheBeginning();
        middles();
        polygonsByNumber();
        movesGoBarsStay();
        CHECKS.finish();
    }

    private static void refusals() {
        Trial m = new Trial();
        int[] lengths = {0, -1, 49, Integer.MAX_VALUE, Integer.MIN_VALUE};
        for (int length : lengths) {
            CHECKS.due("cut(" + length + ") of nothing", m.cut(length), -2);
        }
        CHECKS.due("cut(5) of nothing", m.cut(5), -3);
        int open = m.polygon();
        CHECKS.corners(m, open, 10, 10, 20, 10, 20, 20, 10, 20);
        CHECKS.due("cut(5) of an open one", m.cut(5), -3);
        m.corner(open, 10, 10);
        CHECKS.due("cut(0)", m.cut(0), -2);
        CHECKS.due("cut(5)", m.cut(5), 8);
    }

    private static void counts() {
        int[][] lengthAndPieces = {{48, 4}, {30, 4}, {29, 6}, {10, 8}, {9, 12}, {7, 14}, {1, 80}, {2, 40}};
        Trial m = CHECKS.plain(5, 5, 15, 35);
        int open = m.polygon();
        CHECKS.corners(m, open, 20, 10, 30, 10);
        for (int[] each : lengthAndPieces) {
            CHECKS.due("10 by 30, cut(" + each[0] + ")", m.cut(each[0]), each[1]);
        }
    }

    private static void mostPieces() {
        Trial m = CHECKS.plain(0, 0, 30, 30);
        CHECKS.due("120 pieces", m.cut(1), 120);
        CHECKS.due("a last piece to shift", m.shift(0, 1), 120);
        CHECKS.due("moved(119)", m.moved(119), 1);
        CHECKS.due("moved(120)", m.moved(120), 0);
        CHECKS.due("a round of 120 pieces", m.run(20, 1, 1, 6), 1);
        CHECKS.due("moved(59)", m.moved(59), 0);
        CHECKS.due("bars with 120 pieces", m.helper(1, 1), 2);

        Trial larger = CHECKS.plain(0, 0, 30, 31);
        CHECKS.due("cut(48)", larger.cut(48), 4);
        larger.shift(0, 2);
        CHECKS.due("122 pieces", larger.cut(1), -4);
        CHECKS.dueMoves("behind a refused cut", larger, 2, 2, 2, 2, 0);
        CHECKS.due("119 pieces", stepAndSquare(34), 119);
        CHECKS.due("121 pieces", stepAndSquare(36), -4);
    }

    /** An L whose sides along x are of 6, 3 and 3, which are 7 pieces of 2 at most. */
    private static int stepAndSquare(int height) {
        Trial m = new Trial();
        CHECKS.closed(m, 0, 0, 6, 0, 6, 20, 3, 20, 3, 44, 0, 44);
        CHECKS.rectangle(m, 10, 0, 44, height);
        return m.cut(2);
    }

    /** A side of 10 in 3 pieces has them of 3, 3 and 4, from where it begins. */
    private static void cutFromTheBeginning() {
        Trial m = CHECKS.plain(10, 10, 20, 20);
        CHECKS.due("cut(4)", m.cut(4), 12);
        CHECKS.due("shift(3, 1)", m.shift(3, 1), 8);
        for (int i = 0; i < 10; i++) {
            boolean forth = i < 3 || i >= 6;
            boolean back = i < 4 || i >= 7;
            CHECKS.due("top, cell " + i, m.is(10 + i, 9, 1), forth);
            CHECKS.due("right, cell " + i, m.is(20, 10 + i, 1), forth);
            CHECKS.due("bottom, cell " + i, m.is(10 + i, 20, 1), back);
            CHECKS.due("left, cell " + i, m.is(9, 10 + i, 1), back);
        }
    }

    /** Above the top side only one column prints: the error tells whether it is the middle. */
    private static void middles() {
        int[][] widthAndMiddle = {{1, 0}, {2, 0}, {3, 1}, {4, 1}, {5, 2}, {6, 2}};
        for (int[] each : widthAndMiddle) {
            for (int column = 0; column < each[0]; column++) {
                Trial m = CHECKS.plain(10, 10, 10 + each[0], 20);
                CHECKS.rectangle(m, 10 + column, 5, 11 + column, 10);
                m.cut(48);
                CHECKS.due("middle of " + each[0] + ", column " + column,
                    m.error(0), column == each[1] ? 5 : 0);
            }
        }
    }

    private static void polygonsByNumber() {
        Trial m = new Trial();
        m.kernel(1, 0);
        m.polygon();
        m.polygon();
        CHECKS.corners(m, 1, 30, 30, 40, 30, 40, 45, 30, 45, 30, 30);
        CHECKS.corners(m, 0, 10, 10, 10, 15, 20, 15, 20, 10, 10, 10);
        CHECKS.due("cut(5)", m.cut(5), 6 + 10);
        CHECKS.due("shift(1, 1)", m.shift(1, 1), 4 + 4);
        CHECKS.dueMoves("polygon 0 first", m, 0, 1, 1, 0, 1, 1, 1, 1, 0, 0, 0, 1, 1, 0, 0, 0);
    }

    private static void movesGoBarsStay() {
        Trial m = CHECKS.plain(10, 10, 20, 20);
        m.cut(5);
        m.shift(0, 1);
        CHECKS.due("helper(3, 1)", m.helper(3, 1), 4);
        CHECKS.due("moved into the mask", m.is(12, 9, 1), true);
        CHECKS.due("cut(48)", m.cut(48), 4);
        CHECKS.dueMoves("cut anew", m, 0, 0, 0, 0);
        CHECKS.due("no longer in the mask", m.is(12, 9, 1), false);
        CHECKS.due("a bar", m.is(12, 6, 1), true);
        CHECKS.due("prints(3, 100)", m.prints(3, 100), true);
        CHECKS.due("moved(4)", m.moved(4), 0);
        CHECKS.due("alike(4, 4)", m.alike(4, 4), false);
    }
}
