/** Terms: how sides are cut, the middles of pieces, and which way is outward. */
final class TermsPiecesTest {
    private static final Checks CHECKS = new Checks();

    public static void main(String[] args) {
        numberedFromZero();
        mostPieces();
        polygonsByTheirNumbers();
        sidesFromTheFirstCorner();
        asFewAsMayBe();
        cutFromTheBeginning();
        middles();
        outward();
        outwardAtTheGridsEdge();
        flatWithNoneOnBothHands();
        flatWithThePolygonOnBothHands();
        outwardByItsOwnPolygon();
        noMoveAtFirst();
        CHECKS.finish();
    }

    private static void numberedFromZero() {
        CHECKS.sentence("PIECES, numbered from 0 on");
        Trial m = CHECKS.plain(10, 10, 20, 20);
        m.cut(48);
        m.shift(0, 2);
        CHECKS.dueMoves("the four of them", m, 2, 2, 2, 2);
        CHECKS.due("moved(-1)", m.moved(-1), 0);
        CHECKS.due("moved(4)", m.moved(4), 0);
    }

    private static void mostPieces() {
        CHECKS.sentence("PIECES, numbered from 0 on, at most 120");
        Trial m = CHECKS.plain(0, 0, 30, 30);
        CHECKS.due("120 pieces", m.cut(1), 120);
        CHECKS.due("all of them move", m.shift(0, 1), 120);
        CHECKS.due("moved(119)", m.moved(119), 1);
        CHECKS.due("moved(120)", m.moved(120), 0);
        CHECKS.due("a round of all of them", m.run(20, 1, 1, 6), 1);
        CHECKS.due("bars beside their sides", m.helper(1, 1), 2);
        CHECKS.due("119 pieces", stepAndSquare(34).cut(2), 119);
        Trial more = stepAndSquare(36);
        CHECKS.due("cut(10)", more.cut(10), 29);
        more.shift(0, 2);
        CHECKS.changesNothing("a cut into 121", more, t -> CHECKS.due("121 pieces", t.cut(2), -4));
    }

    /** An L whose sides along x are of 6, 3 and 3, which are 7 pieces of 2 at most. */
    private static Trial stepAndSquare(int height) {
        Trial m = new Trial();
        CHECKS.closed(m, 0, 0, 6, 0, 6, 20, 3, 20, 3, 44, 0, 44);
        CHECKS.rectangle(m, 10, 0, 44, height);
        return m;
    }

    private static void polygonsByTheirNumbers() {
        CHECKS.sentence("POLYGONS by their numbers");
        Trial m = new Trial();
        for (int i = 0; i < 4; i++) {
            m.polygon();
        }
        CHECKS.corners(m, 3, 30, 30, 40, 30, 40, 45, 30, 45, 30, 30);
        CHECKS.corners(m, 2, 1, 1, 5, 1, 5, 5, 1, 5);
        CHECKS.corners(m, 0, 10, 10, 10, 15, 20, 15, 20, 10, 10, 10);
        CHECKS.due("cut(5): 0 and 3 are closed", m.cut(5), 6 + 10);
        CHECKS.due("shift(1, 1)", m.shift(1, 1), 4 + 4);
        CHECKS.dueMoves("0 is first", m, 0, 1, 1, 0, 1, 1, 1, 1, 0, 0, 0, 1, 1, 0, 0, 0);
    }

    /** A bar of cells beside one side alone tells which piece is there. */
    private static void sidesFromTheFirstCorner() {
        CHECKS.sentence("sides from the first corner on, as corners were told");
        int[][] xys = {
            {20, 20, 30, 20, 30, 30, 20, 30}, {30, 20, 30, 30, 20, 30, 20, 20},
            {30, 30, 20, 30, 20, 20, 30, 20}, {20, 30, 20, 20, 30, 20, 30, 30}
        };
        for (int first = 0; first < 4; first++) {
            Trial m = new Trial();
            CHECKS.closed(m, xys[first]);
            CHECKS.rectangle(m, 20, 15, 30, 20);
            CHECKS.due("kernel(1, 0)", m.kernel(1, 0), 0);
            m.cut(48);
            for (int piece = 0; piece < 4; piece++) {
                boolean isTop = (first + piece) % 4 == 0;
                CHECKS.due("first corner " + first + ", error(" + piece + ")", m.error(piece), isTop ? 5 : 0);
            }
        }
        Trial counter = new Trial();
        CHECKS.closed(counter, 20, 20, 20, 30, 30, 30, 30, 20);
        CHECKS.rectangle(counter, 20, 15, 30, 20);
        counter.kernel(1, 0);
        counter.cut(48);
        CHECKS.dueErrors("the other way round: the top is last", counter, 0, 0, 0, 5);
    }

    private static void asFewAsMayBe() {
        CHECKS.sentence("a side of length l into as few as are not longer than told");
        int[] lengths = {1, 2, 5, 6, 7, 11, 12, 13, 47, 48};
        int[] told = {1, 2, 5, 6, 7, 12, 24, 47, 48};
        for (int l : lengths) {
            for (int most : told) {
                int n = 1;
                while (n * most < l) {
                    n++;
                }
                Trial m = new Trial();
                CHECKS.rectangle(m, 0, 0, l, 1);
                CHECKS.due("sides of " + l + " and 1, cut(" + most + ")", m.cut(most), 2 * n + 2);
                Trial upright = new Trial();
                CHECKS.rectangle(upright, 0, 0, 1, l);
                CHECKS.due("sides of 1 and " + l + ", cut(" + most + ")", upright.cut(most), 2 * n + 2);
            }
        }
    }

    /** A side of 10 in 3 pieces has them of 3, 3 and 4, from where it begins. */
    private static void cutFromTheBeginning() {
        CHECKS.sentence("PIECE i goes from l i / n to l (i + 1) / n (cut) from the side's beginning");
        Trial m = CHECKS.plain(10, 10, 20, 20);
        CHECKS.due("cut(4)", m.cut(4), 12);
        CHECKS.due("shift(3, 1)", m.shift(3, 1), 8);
        for (int i = 0; i < 10; i++) {
            boolean forth = i < 3 || i >= 6;
            boolean back = i < 4 || i >= 7;
            CHECKS.due("top, cell " + i, m.is(10 + i, 9, 1), forth);
            CHECKS.due("right, cell " + i, m.is(20, 10 + i, 1), forth);
            CHECKS.due("bottom, cell " + i, m.is(10 + i, 20, 1), back);
            CHECKS.due("left, cell " + i, m.is(9, 10 + i, 1), back);
        }
    }

    /** Beside a side only one row of cells goes out: the error tells whether it is at the middle. */
    private static void middles() {
        CHECKS.sentence("Its MIDDLE is the CELL column (or row) (a + b - 1) / 2, cut");
        int[][] lengthAndMiddle = {{1, 0}, {2, 0}, {3, 1}, {4, 1}, {5, 2}, {6, 2}, {7, 3}};
        for (int[] each : lengthAndMiddle) {
            int l = each[0];
            for (int i = 0; i < l; i++) {
                int want = i == each[1] ? 5 : 0;
                String which = " of " + l + ", cell " + i;
                CHECKS.due("top" + which, errorBeside(l, 10, 0, 10 + i, 5, 11 + i, 10), want);
                CHECKS.due("right" + which, errorBeside(10, l, 1, 20, 10 + i, 25, 11 + i), want);
                CHECKS.due("bottom" + which, errorBeside(l, 10, 2, 10 + i, 20, 11 + i, 25), want);
                CHECKS.due("left" + which, errorBeside(10, l, 3, 5, 10 + i, 10, 11 + i), want);
            }
        }
    }

    private static int errorBeside(int width, int height, int piece, int... other) {
        Trial m = CHECKS.plain(10, 10, 10 + width, 10 + height);
        CHECKS.rectangle(m, other[0], other[1], other[2], other[3]);
        m.cut(48);
        return m.error(piece);
    }

    private static void outward() {
        CHECKS.sentence("OUTWARD is the way to where the CELL beside its MIDDLE is not in its POLYGON");
        int[][] xys = {{10, 10, 20, 10, 20, 20, 10, 20}, {10, 10, 10, 20, 20, 20, 20, 10}};
        for (int[] xy : xys) {
            Trial m = new Trial();
            CHECKS.closed(m, xy);
            m.cut(48);
            CHECKS.due("shift(0, 1)", m.shift(0, 1), 4);
            CHECKS.dueCells("a row outward of each side", m, 1, Checks.box(10, 9, 20, 21), Checks.box(9, 10, 21, 20));
            CHECKS.due("shift(0, -2)", m.shift(0, -2), 4);
            CHECKS.dueCells("a row less on each side", m, 1, Checks.box(11, 11, 19, 19));
        }
    }

    private static void outwardAtTheGridsEdge() {
        CHECKS.sentence("is not in its POLYGON, if on the other hand it is; else the PIECE is FLAT");
        Trial m = CHECKS.plain(0, 0, 48, 48);
        m.cut(48);
        CHECKS.due("none of them is flat", m.shift(0, -2), 4);
        CHECKS.dueCells("two rows less on each side", m, 1, Checks.box(2, 2, 46, 46));
        CHECKS.dueErrors("two rows less on each side", m, -2, -2, -2, -2);
    }

    private static void flatWithNoneOnBothHands() {
        CHECKS.sentence("else the PIECE is FLAT");
        Trial m = CHECKS.crossing();
        CHECKS.due("cut(4): flat ones have other numbers then", m.cut(4), 38);
        CHECKS.due("cut(8)", m.cut(8), 20);
        CHECKS.due("all but two move", m.shift(0, 1), 18);
        CHECKS.dueMoves("1 and 7 are flat", m, 1, 0, 1, 1, 1, 1, 1, 0, 1, 1, 1, 1, 1, 1, 1, 1, 1, 1, 1, 1);
        CHECKS.due("nothing above them", m.is(15, 3, 1), false);
        CHECKS.due("nothing below them", m.is(15, 4, 1), false);
    }

    /** A hole to which two sides on the same line lead: pieces 3 and 7 by the uncut sides. */
    private static void flatWithThePolygonOnBothHands() {
        CHECKS.sentence("else the PIECE is FLAT");
        Trial m = new Trial();
        CHECKS.closed(m, 10, 10, 40, 10, 40, 40, 20, 40, 20, 20, 24, 20, 24, 16, 20, 16, 20, 40, 10, 40);
        CHECKS.due("on both hands of the line", m.is(19, 30, 0) && m.is(20, 30, 0), true);
        CHECKS.due("cut(48)", m.cut(48), 10);
        CHECKS.due("all but two move", m.shift(0, -1), 8);
        CHECKS.dueMoves("3 and 7 are flat", m, -1, -1, -1, 0, -1, -1, -1, 0, -1, -1);
        CHECKS.due("cut(6): the last side but two has a piece at the hole", m.cut(6) > 10, true);
        m.shift(0, -1);
        CHECKS.due("that one moves", m.is(19, 18, 1), false);
        CHECKS.due("the flat ones beside it do not", m.is(19, 25, 1) && m.is(20, 25, 1), true);
    }

    private static void outwardByItsOwnPolygon() {
        CHECKS.sentence("the CELL beside its MIDDLE is not in its POLYGON");
        Trial m = CHECKS.plain(10, 10, 20, 20);
        CHECKS.rectangle(m, 20, 10, 30, 20);
        m.cut(48);
        CHECKS.due("none is flat by the other one", m.shift(2, -1), 4);
        CHECKS.dueCells("both take a column out", m, 1, Checks.box(11, 10, 19, 20), Checks.box(21, 10, 29, 20));
    }

    private static void noMoveAtFirst() {
        CHECKS.sentence("Each has a MOVE, 0 at first");
        Trial m = CHECKS.plain(10, 10, 20, 20);
        m.cut(5);
        CHECKS.dueMoves("behind a cut", m, 0, 0, 0, 0, 0, 0, 0, 0);
        CHECKS.dueCells("the mask is the target", m, 1, Checks.box(10, 10, 20, 20));
    }
}
