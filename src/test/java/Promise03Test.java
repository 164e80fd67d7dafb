/** corner: what is a corner more, what closes a polygon, and which cells lie in it. */
final class Promise03Test {
    private static final Checks CHECKS = new Checks();

    public static void main(String[] args) {
        wrongCorners();
        closing();
        closingAlongTheFirstSide();
        sixteenCorners();
        firstSideAlongY();
        noCornersWithPieces();
        cellsByOddSides();
        targetIsAllPolygons();
        CHECKS.finish();
    }

    private static void wrongCorners() {
        Trial m = new Trial();
        m.polygon();
        CHECKS.due("no such polygon", m.corner(1, 5, 5), false);
        CHECKS.due("no such polygon", m.corner(-1, 5, 5), false);
        long[] none = {-1, 49, Long.MAX_VALUE, Long.MIN_VALUE, 1L << 32, (1L << 32) + 5, -(1L << 32) + 5};
        for (long c : none) {
            CHECKS.due("corner(0, " + c + ", 5)", m.corner(0, c, 5), false);
            CHECKS.due("corner(0, 5, " + c + ")", m.corner(0, 5, c), false);
        }
        CHECKS.due("first corner", m.corner(0, 48, 0), true);
        CHECKS.due("no length", m.corner(0, 48, 0), false);
        CHECKS.due("slanted", m.corner(0, 40, 8), false);
        CHECKS.due("along y", m.corner(0, 48, 48), true);
        CHECKS.due("along y again", m.corner(0, 48, 20), false);
        CHECKS.due("back to the first", m.corner(0, 48, 0), false);
        CHECKS.due("along x", m.corner(0, 0, 48), true);
        CHECKS.due("the first behind two others", m.corner(0, 48, 0), false);
        CHECKS.due("along y", m.corner(0, 0, 0), true);
        CHECKS.due("open: in no target", m.is(5, 5, 0), false);
        CHECKS.due("closing", m.corner(0, 48, 0), true);
        CHECKS.due("closed: in the target", m.is(5, 5, 0), true);
    }

    private static void closing() {
        Trial m = new Trial();
        CHECKS.rectangle(m, 10, 10, 20, 20);
        CHECKS.due("the first corner of a closed one", m.corner(0, 10, 10), false);
        CHECKS.due("a corner of a closed one", m.corner(0, 10, 5), false);
        CHECKS.due("cut(48): the closing corner is none more", m.cut(48), 4);
    }

    private static void closingAlongTheFirstSide() {
        Trial m = new Trial();
        int p = m.polygon();
        CHECKS.due("corners", CHECKS.corners(m, p, 30, 30, 36, 30, 36, 36, 33, 36, 33, 30), true);
        CHECKS.due("closing along the first side", m.corner(p, 30, 30), false);
        CHECKS.due("cut(48): not closed", m.cut(48), -3);
        CHECKS.due("a corner along x", m.corner(p, 28, 30), true);
        CHECKS.due("closing along the last side", m.corner(p, 30, 30), false);
        CHECKS.due("corners", CHECKS.corners(m, p, 28, 40, 30, 40), true);
        CHECKS.due("closing", m.corner(p, 30, 30), true);
    }

    /** A stair of 15 sides that comes back to the line of the first corner. */
    private static void sixteenCorners() {
        Trial m = new Trial();
        int p = m.polygon();
        boolean all = true;
        for (int i = 0; i < 7; i++) {
            all &= m.corner(p, 2 * i, 2 * i);
            all &= m.corner(p, 2 * i + 2, 2 * i);
        }
        all &= m.corner(p, 14, 20);
        all &= m.corner(p, 0, 20);
        CHECKS.due("16 corners", all, true);
        CHECKS.due("a 17th", m.corner(p, 0, 10), false);
        CHECKS.due("the first one closes 16", m.corner(p, 0, 0), true);
        CHECKS.due("cut(48)", m.cut(48), 16);
    }

    private static void firstSideAlongY() {
        Trial m = new Trial();
        CHECKS.closed(m, 10, 10, 10, 30, 20, 30, 20, 10);
        CHECKS.dueCells("first along y", m, 0, Checks.box(10, 10, 20, 30));
    }

    private static void noCornersWithPieces() {
        Trial m = CHECKS.plain(10, 10, 20, 20);
        int open = m.polygon();
        CHECKS.due("corner before the cut", m.corner(open, 1, 1), true);
        m.cut(48);
        CHECKS.due("corner with pieces", m.corner(open, 5, 1), false);
    }

    /** A polygon that crosses itself: what is gone round twice is not in it. */
    private static void cellsByOddSides() {
        Trial m = new Trial();
        CHECKS.closed(m, 4, 4, 20, 4, 20, 20, 12, 20, 12, 4, 28, 4, 28, 30, 4, 30);
        CHECKS.due("one side to the left", m.is(11, 4, 0), true);
        CHECKS.due("two sides to the left", m.is(12, 4, 0), false);
        CHECKS.due("two sides to the left", m.is(19, 19, 0), false);
        CHECKS.due("below the crossing", m.is(12, 20, 0), true);
        CHECKS.due("three sides to the left", m.is(20, 4, 0), true);
        CHECKS.due("all sides to the left", m.is(28, 4, 0), false);
        CHECKS.due("last row", m.is(4, 29, 0), true);
        CHECKS.due("below", m.is(4, 30, 0), false);
    }

    private static void targetIsAllPolygons() {
        Trial m = new Trial();
        CHECKS.rectangle(m, 10, 10, 20, 20);
        CHECKS.rectangle(m, 15, 10, 30, 20);
        CHECKS.dueCells("two that overlap", m, 0, Checks.box(10, 10, 30, 20));
        CHECKS.dueCells("mask before a cut", m, 1, Checks.box(10, 10, 30, 20));
    }
}
