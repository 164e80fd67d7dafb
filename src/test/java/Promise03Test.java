/** corner: what is a corner more, what closes a polygon, and each reason for which it is refused. */
final class Promise03Test {
    private static final Checks CHECKS = new Checks();

    public static void main(String[] args) {
        closesBehindThreeOthers();
        closesBehindFiveOthers();
        isNoCornerMore();
        cornersMayBeToldTwice();
        noSuchPolygon();
        closedOnes();
        sixteenCorners();
        sixteenThatCanNotBeClosed();
        piecesAreThere();
        coordinatesThatAreNone();
        noLength();
        notAlongXOrY();
        alongWhatTheLastDoes();
        closingAlongWhatTheFirstDoes();
        CHECKS.finish();
    }

    /** A POLYGON with so many of the corners of a square that begins along x. */
    private static Trial begun(int corners) {
        int[] xy = {10, 10, 20, 10, 20, 20, 10, 20};
        Trial m = new Trial();
        m.polygon();
        for (int i = 0; i < corners; i++) {
            CHECKS.due("corner " + i, m.corner(0, xy[2 * i], xy[2 * i + 1]), true);
        }
        return m;
    }

    /** The corner is refused, and the rest of the corners closes the polygon as if it had not been. */
    private static void dueFalse(String why, Trial m, int polygon, long x, long y, int... rest) {
        Trial before = m.again();
        CHECKS.due(why + ": corner(" + polygon + ", " + x + ", " + y + ")", m.corner(polygon, x, y), false);
        CHECKS.dueSame(why + " changes nothing", before, m);
        if (rest.length > 0) {
            CHECKS.due(why + ": the rest of the corners", CHECKS.corners(m, 0, rest), true);
            CHECKS.corners(before, 0, rest);
            CHECKS.due(why + ": no corner more", m.cut(48), before.cut(48));
            CHECKS.dueSame(why + " changes nothing", before, m);
        }
    }

    private static void closesBehindThreeOthers() {
        CHECKS.sentence("the first one again behind three others, at least, closes it");
        dueFalse("behind none", begun(1), 0, 10, 10, 20, 10, 20, 20, 10, 20, 10, 10);
        dueFalse("behind one", begun(2), 0, 10, 10, 20, 20, 10, 20, 10, 10);
        dueFalse("behind two", begun(3), 0, 10, 10, 10, 20, 10, 10);
        Trial m = begun(4);
        CHECKS.dueCells("not closed", m, 0);
        CHECKS.due("not closed", m.cut(48), -3);
        CHECKS.due("behind three", m.corner(0, 10, 10), true);
        CHECKS.dueCells("closed", m, 0, Checks.box(10, 10, 20, 20));
        CHECKS.dueCells("closed, the mask", m, 1, Checks.box(10, 10, 20, 20));

        Trial upright = new Trial();
        upright.polygon();
        CHECKS.due("first along y", CHECKS.corners(upright, 0, 10, 10, 10, 30, 20, 30, 20, 10, 10, 10), true);
        CHECKS.dueCells("first along y", upright, 0, Checks.box(10, 10, 20, 30));
    }

    private static void closesBehindFiveOthers() {
        CHECKS.sentence("the first one again behind three others, at least, closes it");
        Trial m = new Trial();
        m.polygon();
        CHECKS.due("an L", CHECKS.corners(m, 0, 10, 10, 20, 10, 20, 15, 15, 15, 15, 20, 10, 20), true);
        CHECKS.due("behind five", m.corner(0, 10, 10), true);
        CHECKS.dueCells("an L", m, 0, Checks.box(10, 10, 20, 15), Checks.box(10, 15, 15, 20));
    }

    private static void isNoCornerMore() {
        CHECKS.sentence("closes it (it is no corner more)");
        Trial m = begun(4);
        m.corner(0, 10, 10);
        CHECKS.due("four sides", m.cut(48), 4);
    }

    /** Only the first one closes: another one may come again, also where it is on the way. */
    private static void cornersMayBeToldTwice() {
        CHECKS.sentence("A corner more");
        Trial m = new Trial();
        CHECKS.closed(m, 10, 10, 40, 10, 40, 40, 20, 40, 20, 20, 24, 20, 24, 16, 20, 16, 20, 40, 10, 40);
        CHECKS.due("(20, 40) is two of ten", m.cut(48), 10);
    }

    private static void noSuchPolygon() {
        CHECKS.sentence("False: no such POLYGON");
        int[] numbers = {-1, 1, 4, Integer.MAX_VALUE, Integer.MIN_VALUE};
        for (int number : numbers) {
            dueFalse("no such polygon", begun(2), number, 20, 20, 20, 20, 10, 20, 10, 10);
        }
        Trial none = new Trial();
        dueFalse("before polygon()", none, 0, 5, 5);
        none.polygon();
        CHECKS.due("behind polygon()", none.corner(0, 5, 5), true);
    }

    private static void closedOnes() {
        CHECKS.sentence("False: .. it is CLOSED");
        Trial m = begun(4);
        m.corner(0, 10, 10);
        dueFalse("the first one", m, 0, 10, 10);
        dueFalse("along x", m, 0, 30, 10);
        dueFalse("along y", m, 0, 10, 30);
        dueFalse("behind the last one", m, 0, 5, 20);
        CHECKS.due("an open one takes it", m.polygon() == 1 && m.corner(1, 30, 10), true);
    }

    /** Fourteen corners of stairs, of which the last is (14, 12), and one or two below them. */
    private static Trial stairs(int corners) {
        Trial m = new Trial();
        m.polygon();
        for (int x = 0; x < 14; x += 2) {
            m.corner(0, x, x);
            m.corner(0, x + 2, x);
        }
        if (corners > 14) {
            CHECKS.due("a 15th", m.corner(0, 14, 20), true);
        }
        if (corners > 15) {
            CHECKS.due("a 16th", m.corner(0, 0, 20), true);
        }
        return m;
    }

    private static void sixteenCorners() {
        CHECKS.sentence("False: .. has 16 (and is not closed by this one)");
        CHECKS.due("the 16th of them", stairs(15).corner(0, 0, 20), true);
        dueFalse("a 17th", stairs(16), 0, 0, 10, 0, 0);
        dueFalse("a 17th beyond the first", stairs(16), 0, 0, 30, 0, 0);
        Trial m = stairs(16);
        CHECKS.due("closed by this one", m.corner(0, 0, 0), true);
        CHECKS.due("cut(48)", m.cut(48), 16);
    }

    private static void sixteenThatCanNotBeClosed() {
        CHECKS.sentence("False: .. has 16 (and is not closed by this one)");
        Trial m = stairs(15);
        CHECKS.due("a 16th aside of the first", m.corner(0, 1, 20), true);
        dueFalse("slanted to the first", m, 0, 0, 0);
        dueFalse("along y", m, 0, 1, 0);
        dueFalse("along x", m, 0, 0, 20);
        CHECKS.due("cut(48)", m.cut(48), -3);
    }

    private static void piecesAreThere() {
        CHECKS.sentence("False: .. there are PIECES");
        Trial m = CHECKS.plain(10, 10, 20, 20);
        m.polygon();
        CHECKS.due("before a cut", CHECKS.corners(m, 1, 30, 30, 40, 30, 40, 40), true);
        CHECKS.due("behind a refused cut", m.cut(0) == -2 && m.corner(1, 30, 40), true);
        m.cut(48);
        dueFalse("closing it", m, 1, 30, 30);
        dueFalse("a corner more", m, 1, 30, 35);
        dueFalse("of a closed one", m, 0, 10, 5);
        CHECKS.due("only the first one is cut", m.cut(48), 4);
    }

    private static void coordinatesThatAreNone() {
        CHECKS.sentence("False: .. a coordinate is none");
        long wrap = 1L << 32;
        long[] none = {-1, 49, Long.MAX_VALUE, Long.MIN_VALUE, wrap, wrap + 10, wrap + 20, -wrap + 10, -wrap + 20};
        for (long c : none) {
            dueFalse("x is none", begun(2), 0, c, 20, 20, 20, 10, 20, 10, 10);
            dueFalse("y is none", begun(2), 0, 20, c, 20, 20, 10, 20, 10, 10);
            dueFalse("x is none, along x", begun(1), 0, c, 10, 20, 10, 20, 20, 10, 20, 10, 10);
            dueFalse("x is none, the first one", begun(0), 0, c, 10, 10, 10, 20, 10, 20, 20, 10, 20, 10, 10);
            dueFalse("y is none, the first one", begun(0), 0, 10, c, 10, 10, 20, 10, 20, 20, 10, 20, 10, 10);
            dueFalse("closing by one that is none", begun(4), 0, c, 10, 10, 10);
        }
        long[] some = {0, 48};
        for (long c : some) {
            CHECKS.due("x " + c, begun(1).corner(0, c, 10), true);
            CHECKS.due("y " + c, begun(2).corner(0, 20, c), true);
        }
    }

    private static void noLength() {
        CHECKS.sentence("False: .. the side has no length");
        dueFalse("the first one again", begun(1), 0, 10, 10, 20, 10, 20, 20, 10, 20, 10, 10);
        dueFalse("the second one again", begun(2), 0, 20, 10, 20, 20, 10, 20, 10, 10);
        dueFalse("the fourth one again", begun(4), 0, 10, 20, 10, 10);
        CHECKS.due("a length of 1 along x", begun(1).corner(0, 11, 10), true);
        CHECKS.due("a length of 1 back along x", begun(1).corner(0, 9, 10), true);
        CHECKS.due("a length of 1 along y", begun(1).corner(0, 10, 11), true);
        CHECKS.due("a length of 1 back along y", begun(1).corner(0, 10, 9), true);
        Trial longest = new Trial();
        longest.polygon();
        CHECKS.due("a length of 48", CHECKS.corners(longest, 0, 0, 48, 48, 48, 48, 0, 0, 0, 0, 48), true);
    }

    private static void notAlongXOrY() {
        CHECKS.sentence("False: .. goes not along x or y");
        dueFalse("one aside in y", begun(1), 0, 20, 11, 20, 10, 20, 20, 10, 20, 10, 10);
        dueFalse("one aside in x", begun(1), 0, 11, 20, 20, 10, 20, 20, 10, 20, 10, 10);
        dueFalse("one aside", begun(2), 0, 21, 20, 20, 20, 10, 20, 10, 10);
        dueFalse("one beside the first", begun(4), 0, 11, 10, 10, 10);
    }

    private static void alongWhatTheLastDoes() {
        CHECKS.sentence("False: .. or goes along what the last one does");
        dueFalse("farther along x", begun(2), 0, 21, 10, 20, 20, 10, 20, 10, 10);
        dueFalse("back along x", begun(2), 0, 15, 10, 20, 20, 10, 20, 10, 10);
        dueFalse("farther along y", begun(3), 0, 20, 21, 10, 20, 10, 10);
        dueFalse("back along y", begun(3), 0, 20, 15, 10, 20, 10, 10);
        dueFalse("back to the second", begun(3), 0, 20, 10, 10, 20, 10, 10);
    }

    /** Behind four others the way back to the first goes along x, as the first side does. */
    private static void closingAlongWhatTheFirstDoes() {
        CHECKS.sentence("False: .. or the closing one along what the first one does");
        Trial m = new Trial();
        m.polygon();
        CHECKS.due("corners", CHECKS.corners(m, 0, 30, 30, 36, 30, 36, 36, 33, 36, 33, 30), true);
        dueFalse("along x", m, 0, 30, 30, 28, 30, 28, 40, 30, 40, 30, 30);

        Trial upright = new Trial();
        upright.polygon();
        CHECKS.due("corners", CHECKS.corners(upright, 0, 30, 30, 30, 36, 36, 36, 36, 33, 30, 33), true);
        dueFalse("along y", upright, 0, 30, 30, 30, 28, 40, 28, 40, 30, 30, 30);
    }
}
