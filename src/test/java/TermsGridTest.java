/** Terms: the cells, the corners, the polygons and the target. */
final class TermsGridTest {
    private static final Checks CHECKS = new Checks();

    public static void main(String[] args) {
        cellsOfTheSquare();
        cornersOfTheSquare();
        fourPolygons();
        sixteenCorners();
        sidesInTurn();
        oddSidesToTheLeft();
        rowsThatASideGoesBy();
        emptyTarget();
        fullTarget();
        openPolygons();
        someClosedPolygon();
        CHECKS.finish();
    }

    private static void cellsOfTheSquare() {
        CHECKS.sentence("CELLS (x, y), x and y 0 .. 47, fill a square");
        Trial full = CHECKS.plain(0, 0, 48, 48);
        for (int what = 0; what <= 2; what++) {
            CHECKS.dueCells("the whole square", full, what, Checks.box(0, 0, 48, 48));
        }
        int[] cells = {0, 1, 46, 47};
        for (int c : cells) {
            CHECKS.due("image(" + c + ", 5)", full.image(c, 5), 1);
            CHECKS.due("image(5, " + c + ")", full.image(5, c), 1);
        }
        int[] none = {-1, 48};
        for (int c : none) {
            CHECKS.due("image(" + c + ", 5)", full.image(c, 5), 0);
            CHECKS.due("image(5, " + c + ")", full.image(5, c), 0);
        }
    }

    private static void cornersOfTheSquare() {
        CHECKS.sentence("corners are 0 .. 48");
        int[] coordinates = {-1, 0, 1, 47, 48, 49};
        for (int c : coordinates) {
            boolean isOne = c >= 0 && c <= 48;
            Trial m = new Trial();
            m.polygon();
            m.polygon();
            CHECKS.due("corner(0, " + c + ", 20)", m.corner(0, c, 20), isOne);
            CHECKS.due("corner(1, 20, " + c + ")", m.corner(1, 20, c), isOne);
            Trial later = new Trial();
            later.polygon();
            later.corner(0, 20, 20);
            CHECKS.due("second corner(0, " + c + ", 20)", later.corner(0, c, 20), isOne);
            Trial upright = new Trial();
            upright.polygon();
            upright.corner(0, 20, 20);
            CHECKS.due("second corner(0, 20, " + c + ")", upright.corner(0, 20, c), isOne);
        }
    }

    private static void fourPolygons() {
        CHECKS.sentence("POLYGONS, at most 4, numbered from 0 on");
        Trial m = new Trial();
        for (int i = 0; i < 4; i++) {
            CHECKS.due("no corner before polygon()", m.corner(i, 5, 5), false);
            CHECKS.due("polygon()", m.polygon(), i);
            CHECKS.due("a corner behind it", m.corner(i, 5, 5), true);
        }
        CHECKS.changesNothing("a fifth", m, t -> {
            CHECKS.due("a fifth polygon()", t.polygon(), -4);
            CHECKS.due("its corner", t.corner(4, 5, 5), false);
        });
    }

    /** Stairs down to (n - 2, n - 4), then back below them to the line x = 0. */
    private static Trial stairs(int n) {
        Trial m = new Trial();
        int p = m.polygon();
        boolean all = true;
        for (int x = 0; x < n - 2; x += 2) {
            all &= m.corner(p, x, x);
            all &= m.corner(p, x + 2, x);
        }
        all &= m.corner(p, n - 2, 40);
        all &= m.corner(p, 0, 40);
        CHECKS.due(n + " corners", all, true);
        return m;
    }

    private static void sixteenCorners() {
        CHECKS.sentence("have up to 16 corners");
        Trial fewer = stairs(14);
        CHECKS.due("a 15th", fewer.corner(0, 0, 10), true);
        CHECKS.due("a 16th", fewer.corner(0, 1, 10), true);
        CHECKS.due("a 17th", fewer.corner(0, 1, 5), false);

        Trial full = stairs(16);
        CHECKS.due("a 17th", full.corner(0, 0, 10), false);
        CHECKS.due("the first one again", full.corner(0, 0, 0), true);
        CHECKS.due("cut(48)", full.cut(48), 16);
        CHECKS.due("below the last step", full.is(13, 39, 0), true);
        CHECKS.due("above the last step", full.is(13, 11, 0), false);
    }

    private static void sidesInTurn() {
        CHECKS.sentence("each side goes along x or along y, in turn");
        Trial m = new Trial();
        m.polygon();
        m.corner(0, 10, 10);
        CHECKS.due("one aside", m.corner(0, 20, 11), false);
        CHECKS.due("along x", m.corner(0, 20, 10), true);
        CHECKS.due("farther along x", m.corner(0, 21, 10), false);
        CHECKS.due("back along x", m.corner(0, 19, 10), false);
        CHECKS.due("along y", m.corner(0, 20, 20), true);
        CHECKS.due("farther along y", m.corner(0, 20, 21), false);
        CHECKS.due("back along y", m.corner(0, 20, 19), false);
        CHECKS.due("along x again", m.corner(0, 10, 20), true);
        CHECKS.due("closing along y", m.corner(0, 10, 10), true);
    }

    private static void oddSidesToTheLeft() {
        CHECKS.sentence("by the sides along y to its left: an odd number of them goes by");
        Trial m = CHECKS.crossing();
        int[][] columnAndSides = {
            {0, 0}, {3, 0}, {4, 1}, {11, 1}, {12, 2}, {19, 2}, {20, 3}, {27, 3}, {28, 4}, {47, 4}
        };
        for (int[] each : columnAndSides) {
            CHECKS.due("column " + each[0], m.is(each[0], 10, 0), each[1] % 2 == 1);
        }
        CHECKS.dueCells("all of it", m, 0,
            Checks.box(4, 4, 12, 30), Checks.box(12, 20, 20, 30), Checks.box(20, 4, 28, 30));
    }

    /** Each side along y is told downward once, and upward once. */
    private static void rowsThatASideGoesBy() {
        CHECKS.sentence("an odd number of them goes by");
        Trial clockwise = new Trial();
        CHECKS.closed(clockwise, 10, 10, 20, 10, 20, 20, 10, 20);
        Trial counter = new Trial();
        CHECKS.closed(counter, 10, 10, 10, 20, 20, 20, 20, 10);
        Trial[] both = {clockwise, counter};
        for (Trial m : both) {
            int[] rows = {9, 10, 19, 20};
            for (int y : rows) {
                boolean in = y >= 10 && y < 20;
                CHECKS.due("row " + y + ", first column", m.is(10, y, 0), in);
                CHECKS.due("row " + y + ", last column", m.is(19, y, 0), in);
                CHECKS.due("row " + y + ", before", m.is(9, y, 0), false);
                CHECKS.due("row " + y + ", behind", m.is(20, y, 0), false);
            }
        }
        Trial least = new Trial();
        CHECKS.rectangle(least, 47, 47, 48, 48);
        CHECKS.dueCells("one cell alone", least, 0, Checks.box(47, 47, 48, 48));
    }

    private static void emptyTarget() {
        CHECKS.sentence("THE TARGET is all CELLS in some CLOSED POLYGON");
        Trial m = new Trial();
        CHECKS.dueCells("no polygon", m, 0);
        m.polygon();
        CHECKS.dueCells("no corner", m, 0);
        CHECKS.dueCells("no corner, mask", m, 1);
    }

    private static void fullTarget() {
        CHECKS.sentence("THE TARGET is all CELLS in some CLOSED POLYGON");
        Trial m = new Trial();
        CHECKS.rectangle(m, 0, 0, 24, 48);
        CHECKS.rectangle(m, 24, 0, 48, 48);
        CHECKS.dueCells("two halves", m, 0, Checks.box(0, 0, 48, 48));
    }

    private static void openPolygons() {
        CHECKS.sentence("all CELLS in some CLOSED POLYGON");
        Trial m = new Trial();
        int open = m.polygon();
        CHECKS.corners(m, open, 5, 5, 40, 5, 40, 40, 5, 40);
        CHECKS.dueCells("an open one alone", m, 0);
        CHECKS.rectangle(m, 10, 10, 20, 20);
        CHECKS.dueCells("an open one around", m, 0, Checks.box(10, 10, 20, 20));
        CHECKS.due("closing it", m.corner(open, 5, 5), true);
        CHECKS.dueCells("closed then", m, 0, Checks.box(5, 5, 40, 40));
    }

    private static void someClosedPolygon() {
        CHECKS.sentence("all CELLS in some CLOSED POLYGON");
        Trial m = new Trial();
        CHECKS.rectangle(m, 10, 10, 20, 20);
        CHECKS.rectangle(m, 15, 10, 30, 20);
        CHECKS.dueCells("in one or in both", m, 0, Checks.box(10, 10, 30, 20));
        CHECKS.dueCells("the mask before a cut", m, 1, Checks.box(10, 10, 30, 20));
        CHECKS.rectangle(m, 12, 12, 14, 14);
        CHECKS.rectangle(m, 40, 40, 48, 48);
        CHECKS.dueCells("four of them", m, 0, Checks.box(10, 10, 30, 20), Checks.box(40, 40, 48, 48));
    }
}
