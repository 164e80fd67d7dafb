/** helper: bars beside the sides, where there is room for them. */
final class Promise11Test {
    private static final Checks CHECKS = new Checks();

    public static void main(String[] args) {
        sidesOfSix();
        closedPolygonsAlone();
        outwardOfTheFirstPiece();
        intoANotch();
        firstPieceFlat();
        laterPieceFlat();
        spacesAndWidths();
        spacesOutside();
        widthsOutside();
        allItsCellsAreThere();
        noneIsInTheTarget();
        noneIsInAnotherBar();
        noneIsInABarOfTheSameCall();
        movesDoNotMatter();
        howManyThereAreMore();
        noPieces();
        mostBars();
        oneBarMore();
        mostBarsInOneCall();
        CHECKS.finish();
    }

    private static Trial square() {
        Trial m = CHECKS.plain(20, 20, 30, 30);
        m.cut(5);
        return m;
    }

    private static void sidesOfSix() {
        CHECKS.sentence("A bar beside each side of a CLOSED POLYGON of 6 or more");
        for (int l = 1; l <= 8; l++) {
            int want = l >= 6 ? 4 : 2;
            Trial m = CHECKS.plain(20, 20, 20 + l, 32);
            m.cut(48);
            CHECKS.due("two sides along x of " + l, m.helper(2, 1), want);
            Trial upright = CHECKS.plain(20, 20, 32, 20 + l);
            upright.cut(48);
            CHECKS.due("two sides along y of " + l, upright.helper(2, 1), want);
            Trial cut = CHECKS.plain(20, 20, 20 + l, 32);
            cut.cut(2);
            CHECKS.due("in pieces of 2, two sides of " + l, cut.helper(2, 1), want);
        }
    }

    private static void closedPolygonsAlone() {
        CHECKS.sentence("each side of a CLOSED POLYGON");
        Trial m = CHECKS.plain(20, 20, 25, 25);
        int open = m.polygon();
        CHECKS.corners(m, open, 30, 30, 40, 30, 40, 40, 30, 40);
        m.cut(48);
        CHECKS.due("of an open one there are none", m.helper(1, 1), 0);
        Trial two = CHECKS.plain(2, 20, 12, 30);
        CHECKS.rectangle(two, 30, 20, 40, 30);
        two.cut(48);
        CHECKS.due("of two closed ones", two.helper(1, 1), 8);
    }

    /**
     * A side on y = 10 with a thin part of the polygon below its left half and above its right one.
     * Its bar is above if it is told from the left, and below if it is told from the right.
     */
    private static void outwardOfTheFirstPiece() {
        CHECKS.sentence("OUTWARD of its first PIECE");
        Trial left = new Trial();
        CHECKS.closed(left, 4, 10, 28, 10, 28, 8, 16, 8, 16, 12, 4, 12);
        left.cut(12);
        CHECKS.due("helper(3, 1)", left.helper(3, 1), 3);
        dueBars("told from the left", left,
            Checks.box(5, 6, 27, 7), Checks.box(17, 4, 27, 5), Checks.box(5, 15, 15, 16));

        Trial right = new Trial();
        CHECKS.closed(right, 28, 10, 4, 10, 4, 12, 16, 12, 16, 8, 28, 8);
        right.cut(12);
        CHECKS.due("helper(3, 1)", right.helper(3, 1), 3);
        dueBars("told from the right", right,
            Checks.box(5, 13, 27, 14), Checks.box(17, 4, 27, 5), Checks.box(5, 15, 15, 16));
    }

    private static void dueBars(String when, Trial m, int[] a, int[] b, int[] c) {
        CHECKS.dueCells(when, m, 1, a, b, c, Checks.box(16, 8, 28, 10), Checks.box(4, 10, 16, 12));
    }

    /** Of a U: the arms have bars in the notch; the ground's would meet the left arm's. */
    private static void intoANotch() {
        CHECKS.sentence("OUTWARD of its first PIECE");
        Trial m = new Trial();
        CHECKS.closed(m, 5, 10, 12, 10, 12, 30, 30, 30, 30, 10, 36, 10, 36, 38, 5, 38);
        m.cut(48);
        CHECKS.due("helper(2, 1)", m.helper(2, 1), 7);
        CHECKS.due("right of the left arm", m.is(14, 11, 1) && m.is(14, 28, 1), true);
        CHECKS.due("left of the right arm", m.is(27, 11, 1) && m.is(27, 28, 1), true);
        CHECKS.due("not above the ground", m.is(20, 27, 1), false);
    }

    /** Both sides on y = 4 want the same row; the first one's first piece is flat, so it has no bar. */
    private static void firstPieceFlat() {
        CHECKS.sentence("OUTWARD of its first PIECE, that is not FLAT");
        Trial m = new Trial();
        CHECKS.closed(m, 12, 4, 28, 4, 28, 30, 4, 30, 4, 4, 20, 4, 20, 20, 12, 20);
        CHECKS.due("cut(8)", m.cut(8), 20);
        CHECKS.due("four around and two in the hole", m.helper(1, 1), 6);
        CHECKS.due("beside the later side", m.is(5, 2, 1) && m.is(18, 2, 1), true);
        CHECKS.due("not beside the first one", m.is(20, 2, 1) || m.is(26, 2, 1), false);
    }

    /** The first side's second piece is flat: the bar goes along all of the side. */
    private static void laterPieceFlat() {
        CHECKS.sentence("OUTWARD of its first PIECE, that is not FLAT: along all of it");
        Trial m = CHECKS.crossing();
        m.cut(8);
        m.helper(1, 1);
        CHECKS.due("along all of the first side", m.is(5, 2, 1) && m.is(14, 2, 1) && m.is(18, 2, 1), true);
        CHECKS.due("but its ends", m.is(4, 2, 1) || m.is(19, 2, 1), false);
    }

    private static void spacesAndWidths() {
        CHECKS.sentence("along all of it but one CELL at each end, behind so many rows of CELLS (1 .. 8), "
            + "so wide (1 .. 4)");
        for (int s = 1; s <= 8; s++) {
            for (int w = 1; w <= 4; w++) {
                Trial m = square();
                CHECKS.due("helper(" + s + ", " + w + ")", m.helper(s, w), 4);
                CHECKS.dueCells("helper(" + s + ", " + w + ")", m, 1, Checks.box(20, 20, 30, 30),
                    Checks.box(21, 20 - s - w, 29, 20 - s), Checks.box(30 + s, 21, 30 + s + w, 29),
                    Checks.box(21, 30 + s, 29, 30 + s + w), Checks.box(20 - s - w, 21, 20 - s, 29));
            }
        }
        CHECKS.dueCells("no bar is in the target", square(), 0, Checks.box(20, 20, 30, 30));
    }

    private static void dueRefused(int space, int width) {
        String call = "helper(" + space + ", " + width + ")";
        CHECKS.due(call + " without pieces", new Trial().helper(space, width), -2);
        CHECKS.changesNothing(call, square(), t -> CHECKS.due(call, t.helper(space, width), -2));
    }

    private static void spacesOutside() {
        CHECKS.sentence("behind so many rows of CELLS (1 .. 8) .. -2");
        int[] out = {0, -1, 9, Integer.MAX_VALUE, Integer.MIN_VALUE};
        for (int space : out) {
            dueRefused(space, 1);
        }
    }

    private static void widthsOutside() {
        CHECKS.sentence("so wide (1 .. 4) .. -2");
        int[] out = {0, -1, 5, Integer.MAX_VALUE, Integer.MIN_VALUE};
        for (int width : out) {
            dueRefused(1, width);
        }
        dueRefused(0, 0);
        dueRefused(9, 5);
    }

    /** The rectangle is so far off one edge, and touches the three others: one bar has room at most. */
    private static void allItsCellsAreThere() {
        CHECKS.sentence("if all its CELLS are there");
        for (int far = 1; far <= 12; far++) {
            int[][] rectangles = {
                {0, far, 48, 48}, {0, 0, 48 - far, 48}, {0, 0, 48, 48 - far}, {far, 0, 48, 48}
            };
            for (int side = 0; side < 4; side++) {
                int[] r = rectangles[side];
                Trial m = CHECKS.plain(r[0], r[1], r[2], r[3]);
                m.cut(48);
                for (int width = 4; width >= 1; width--) {
                    int space = Math.min(8, Math.max(1, far - width));
                    boolean fits = space + width <= far;
                    String when = far + " off, side " + side + ", helper(" + space + ", " + width + ")";
                    CHECKS.due(when, m.again().helper(space, width), fits ? 1 : 0);
                    int farther = space + 1;
                    CHECKS.due(when + ", one farther", m.again().helper(farther, width),
                        farther > 8 ? -2 : farther + width <= far ? 1 : 0);
                }
            }
        }
        Trial edge = CHECKS.plain(0, 4, 48, 44);
        edge.cut(48);
        CHECKS.due("up to both edges", edge.helper(2, 2), 2);
        CHECKS.dueCells("up to both edges", edge, 1, Checks.box(0, 4, 48, 44),
            Checks.box(1, 0, 47, 2), Checks.box(1, 46, 47, 48));
        CHECKS.due("in the first and the last row there are some", edge.helper(3, 1), 0);
        Trial upright = CHECKS.plain(4, 0, 44, 48);
        upright.cut(48);
        CHECKS.due("up to both edges", upright.helper(2, 2), 2);
        CHECKS.due("in the first and the last column there are some", upright.helper(3, 1), 0);
    }

    /** One CELL of another polygon, in the bar above the square (two rows, 15 and 16) or beside it. */
    private static void noneIsInTheTarget() {
        CHECKS.sentence("and none is in THE TARGET");
        for (int y = 14; y <= 17; y++) {
            for (int x = 19; x <= 30; x++) {
                boolean inIt = x >= 21 && x < 29 && (y == 15 || y == 16);
                Trial m = CHECKS.plain(20, 20, 30, 30);
                CHECKS.rectangle(m, x, y, x + 1, y + 1);
                m.cut(48);
                CHECKS.due("a cell of the target at (" + x + ", " + y + ")", m.helper(3, 2), inIt ? 3 : 4);
                CHECKS.due("the bar above", m.is(x == 21 ? 22 : 21, 15, 1), !inIt);
            }
        }
        int[][] besides = {{33, 24, 34, 25}, {24, 33, 25, 34}, {15, 24, 16, 25}};
        for (int[] b : besides) {
            Trial m = CHECKS.plain(20, 20, 30, 30);
            CHECKS.rectangle(m, b[0], b[1], b[2], b[3]);
            m.cut(48);
            CHECKS.due("in another of the bars", m.helper(3, 2), 3);
            CHECKS.due("in its row no more", m.helper(1, 2), 4);
        }
    }

    private static void noneIsInAnotherBar() {
        CHECKS.sentence("and none is in .. another bar");
        Trial m = square();
        CHECKS.due("helper(3, 2)", m.helper(3, 2), 4);
        CHECKS.due("the same again", m.helper(3, 2), 0);
        CHECKS.due("over their outer row", m.helper(4, 2), 0);
        CHECKS.due("over their inner row", m.helper(1, 3), 0);
        CHECKS.due("over all of them", m.helper(2, 4), 0);
        CHECKS.due("inside of them", m.helper(1, 2), 4);
        CHECKS.due("outside of them", m.helper(5, 1), 4);
    }

    /** In the inner corner of an L two bars would meet: the first one comes. */
    private static void noneIsInABarOfTheSameCall() {
        CHECKS.sentence("and none is in .. another bar");
        Trial m = new Trial();
        CHECKS.closed(m, 10, 10, 30, 10, 30, 20, 20, 20, 20, 30, 10, 30);
        m.cut(48);
        for (int space = 1; space <= 3; space++) {
            Trial t = m.again();
            CHECKS.due("one cell would be in both, helper(" + space + ", 1)", t.helper(space, 1), 5);
            CHECKS.due("below the first of them", t.is(28, 19 + space + 1, 1), true);
            CHECKS.due("beside the second one", t.is(19 + space + 1, 28, 1), false);
        }
    }

    private static void movesDoNotMatter() {
        CHECKS.sentence("none is in THE TARGET or another bar");
        Trial m = square();
        m.shift(0, 6);
        CHECKS.due("over what is moved", m.helper(1, 1), 4);
        m.shift(0, -6);
        m.shift(0, -6);
        CHECKS.due("a bar stays in the mask", m.is(25, 18, 1), true);
        CHECKS.due("what was moved does not", m.is(25, 19, 1), false);
        CHECKS.due("not where the target was taken out", m.is(25, 21, 1), false);
    }

    private static void howManyThereAreMore() {
        CHECKS.sentence("how many there are more");
        Trial m = CHECKS.plain(2, 20, 12, 30);
        m.cut(48);
        CHECKS.due("all four", m.helper(1, 1), 4);
        CHECKS.due("three: no room on the left", m.helper(2, 1), 3);
        CHECKS.due("none: they are there", m.helper(2, 1), 0);
        CHECKS.due("prints(6, 100)", m.prints(6, 100), true);
        CHECKS.due("prints(7, 100)", m.prints(7, 100), false);
    }

    private static void noPieces() {
        CHECKS.sentence("-3 there are no PIECES");
        CHECKS.due("a new object", new Trial().helper(1, 1), -3);
        Trial m = CHECKS.plain(20, 20, 30, 30);
        CHECKS.changesNothing("helper before a cut", m, t -> CHECKS.due("helper(1, 1)", t.helper(1, 1), -3));
        m.cut(48);
        CHECKS.due("behind a cut", m.helper(1, 1), 4);
    }

    private static void mostBars() {
        CHECKS.sentence("with 24 bars no more come");
        Trial m = CHECKS.plain(25, 25, 33, 33);
        CHECKS.rectangle(m, 0, 0, 1, 48);
        m.cut(48);
        for (int space = 1; space <= 4; space++) {
            CHECKS.due("helper(" + space + ", 1)", m.helper(space, 1), 5);
        }
        CHECKS.due("prints(19, 100)", m.prints(19, 100), true);
        CHECKS.due("up to 24", m.helper(5, 1), 4);
        CHECKS.due("the last of them is not there", m.is(6, 20, 1), false);
        CHECKS.due("prints(23, 100)", m.prints(23, 100), true);
        CHECKS.due("prints(24, 100)", m.prints(24, 100), false);
        CHECKS.changesNothing("helper with 24 bars", m, t -> CHECKS.due("no more", t.helper(6, 1), 0));
        m.cut(5);
        CHECKS.due("none behind a cut either", m.helper(7, 1), 0);
    }

    /** On its left only the first two have room. With 23 of them three have room, and one comes. */
    private static void oneBarMore() {
        CHECKS.sentence("with 24 bars no more come");
        Trial m = CHECKS.plain(3, 20, 13, 30);
        m.cut(48);
        int[] more = {4, 4, 3, 3, 3, 3, 3};
        for (int space = 1; space <= 7; space++) {
            CHECKS.due("helper(" + space + ", 1)", m.helper(space, 1), more[space - 1]);
        }
        CHECKS.due("23 bars", m.prints(22, 100), true);
        CHECKS.due("no 24th", m.prints(23, 100), false);
        CHECKS.due("the 24th", m.helper(8, 1), 1);
        CHECKS.due("it is the one above", m.is(8, 11, 1), true);
        CHECKS.due("not the one on the right", m.is(21, 25, 1), false);
        CHECKS.due("not the one below", m.is(8, 38, 1), false);
        CHECKS.due("prints(23, 100)", m.prints(23, 100), true);
        CHECKS.due("prints(24, 100)", m.prints(24, 100), false);
        CHECKS.due("helper(8, 1) again", m.helper(8, 1), 0);
    }

    /** 20 bars, and six sides that have room for one more: the first four come. */
    private static void mostBarsInOneCall() {
        CHECKS.sentence("with 24 bars no more come");
        Trial m = CHECKS.plain(25, 25, 33, 33);
        CHECKS.rectangle(m, 0, 0, 1, 48);
        CHECKS.rectangle(m, 40, 0, 45, 6);
        m.cut(48);
        CHECKS.due("2 sides of 6 more", m.helper(1, 1), 7);
        CHECKS.due("2 sides of 6 more", m.helper(2, 1), 7);
        CHECKS.due("only one side of 6 has room", m.helper(3, 1), 6);
        CHECKS.due("four come of six", m.helper(4, 1), 4);
        CHECKS.due("the square's", m.is(26, 20, 1) && m.is(20, 26, 1), true);
        CHECKS.due("not the others", m.is(5, 20, 1) || m.is(35, 2, 1), false);
        CHECKS.due("prints(23, 100)", m.prints(23, 100), true);
        CHECKS.due("prints(24, 100)", m.prints(24, 100), false);
    }
}
