/** helper: bars beside the sides, where there is room for them. */
final class Promise11Test {
    private static final Checks CHECKS = new Checks();

    public static void main(String[] args) {
        refusals();
        places();
        onceEach();
        shortSides();
        onTheGrid();
        notInTheTarget();
        notInOneOfTheSameCall();
        movesDoNotMatter();
        mostBars();
        firstPieceFlat();
        CHECKS.finish();
    }

    private static void refusals() {
        int[][] wrong = {
            {0, 1}, {9, 1}, {1, 0}, {1, 5}, {-1, -1}, {Integer.MAX_VALUE, 1}, {1, Integer.MIN_VALUE}
        };
        Trial none = CHECKS.plain(20, 20, 30, 30);
        Trial m = CHECKS.plain(20, 20, 30, 30);
        m.cut(5);
        for (int[] w : wrong) {
            String call = "helper(" + w[0] + ", " + w[1] + ")";
            CHECKS.due(call + " without pieces", none.helper(w[0], w[1]), -2);
            CHECKS.due(call, m.helper(w[0], w[1]), -2);
        }
        CHECKS.due("helper(1, 1) without pieces", none.helper(1, 1), -3);
        CHECKS.dueCells("no bars", m, 1, Checks.box(20, 20, 30, 30));
        CHECKS.due("helper(8, 4)", m.helper(8, 4), 4);
    }

    private static void places() {
        Trial m = CHECKS.plain(20, 20, 30, 30);
        m.cut(5);
        CHECKS.due("helper(3, 2)", m.helper(3, 2), 4);
        for (int y = 0; y < 48; y++) {
            for (int x = 0; x < 48; x++) {
                boolean in = x >= 20 && x < 30 && y >= 20 && y < 30;
                boolean beside = x >= 21 && x < 29 && (y == 15 || y == 16 || y == 33 || y == 34)
                    || y >= 21 && y < 29 && (x == 15 || x == 16 || x == 33 || x == 34);
                CHECKS.due("is(" + x + ", " + y + ", 1)", m.is(x, y, 1), in || beside);
                CHECKS.due("is(" + x + ", " + y + ", 0)", m.is(x, y, 0), in);
            }
        }
    }

    private static void onceEach() {
        Trial m = CHECKS.plain(20, 20, 30, 30);
        m.cut(48);
        CHECKS.due("helper(3, 2)", m.helper(3, 2), 4);
        CHECKS.due("the same again", m.helper(3, 2), 0);
        CHECKS.due("over their outer row", m.helper(4, 2), 0);
        CHECKS.due("over their inner row", m.helper(1, 3), 0);
        CHECKS.due("inside of them", m.helper(1, 2), 4);
        CHECKS.due("outside of them", m.helper(5, 1), 4);
    }

    private static void shortSides() {
        Trial m = CHECKS.plain(20, 20, 25, 26);
        m.cut(48);
        CHECKS.due("only sides of 6", m.helper(1, 1), 2);
        CHECKS.due("beside the right one", m.is(26, 21, 1) && m.is(26, 24, 1), true);
        CHECKS.due("one cell less at each end", m.is(26, 20, 1) || m.is(26, 25, 1), false);
    }

    private static void onTheGrid() {
        Trial m = CHECKS.plain(4, 20, 14, 48);
        m.cut(48);
        CHECKS.due("all but the bottom", m.helper(1, 1), 3);
        CHECKS.due("left up to the edge", m.helper(2, 2), 3);
        CHECKS.due("left in the grid", m.is(0, 21, 1), true);
        CHECKS.due("one row beyond it", m.helper(4, 1), 2);

        Trial wide = CHECKS.plain(0, 4, 48, 44);
        wide.cut(48);
        CHECKS.due("only one row is beyond", wide.helper(2, 3), 0);
        CHECKS.due("up to both edges", wide.helper(2, 2), 2);
        CHECKS.due("row 0", wide.is(1, 0, 1) && wide.is(46, 47, 1), true);
        CHECKS.due("row 0, ends", wide.is(0, 0, 1) || wide.is(47, 47, 1), false);
        CHECKS.due("only in the first and last row", wide.helper(3, 1), 0);

        Trial high = CHECKS.plain(4, 0, 44, 48);
        high.cut(48);
        CHECKS.due("only one column is beyond", high.helper(3, 2), 0);
        CHECKS.due("up to both edges", high.helper(3, 1), 2);
        CHECKS.due("column 0", high.is(0, 1, 1) && high.is(47, 46, 1), true);
    }

    private static void notInTheTarget() {
        Trial m = CHECKS.plain(20, 20, 30, 30);
        CHECKS.rectangle(m, 28, 16, 33, 17);
        m.cut(48);
        CHECKS.due("one cell of the bar above is in it", m.helper(3, 1), 3);
        CHECKS.due("before it", m.helper(2, 1), 4);
        CHECKS.due("behind it", m.helper(4, 1), 4);
    }

    /** In the inner corner of an L two bars would meet: the first one comes. */
    private static void notInOneOfTheSameCall() {
        Trial m = new Trial();
        CHECKS.closed(m, 10, 10, 30, 10, 30, 20, 20, 20, 20, 30, 10, 30);
        m.cut(48);
        CHECKS.due("helper(2, 2)", m.helper(2, 2), 5);
        CHECKS.due("below the first of them", m.is(25, 22, 1), true);
        CHECKS.due("beside the second one", m.is(22, 26, 1), false);
    }

    private static void movesDoNotMatter() {
        Trial m = CHECKS.plain(20, 20, 30, 30);
        m.cut(48);
        m.shift(0, 6);
        CHECKS.due("over what is moved", m.helper(1, 1), 4);
        m.shift(0, -6);
        m.shift(0, -6);
        CHECKS.due("a bar stays in the mask", m.is(25, 18, 1), true);
        CHECKS.due("what was moved does not", m.is(25, 19, 1), false);
    }

    private static void mostBars() {
        Trial m = CHECKS.plain(25, 25, 33, 33);
        CHECKS.rectangle(m, 0, 0, 1, 48);
        m.cut(48);
        for (int space = 1; space <= 4; space++) {
            CHECKS.due("helper(" + space + ", 1)", m.helper(space, 1), 5);
        }
        CHECKS.due("up to 24", m.helper(5, 1), 4);
        CHECKS.due("the last of them is not there", m.is(6, 20, 1), false);
        CHECKS.due("prints(23, 100)", m.prints(23, 100), true);
        CHECKS.due("prints(24, 100)", m.prints(24, 100), false);
        CHECKS.due("no more", m.helper(6, 1), 0);
    }

    /** Both sides on y = 4 want the same row; the first one's first piece is flat, so it has no bar. */
    private static void firstPieceFlat() {
        Trial m = new Trial();
        CHECKS.closed(m, 12, 4, 28, 4, 28, 30, 4, 30, 4, 4, 20, 4, 20, 20, 12, 20);
        CHECKS.due("cut(8)", m.cut(8), 20);
        m.helper(1, 1);
        CHECKS.due("beside the later side", m.is(5, 2, 1) && m.is(18, 2, 1), true);
        CHECKS.due("not beside the first one", m.is(20, 2, 1) || m.is(26, 2, 1), false);
    }
}
