/** Terms: the mask, by the moves of the pieces in turn and by the bars. */
final class TermsMaskTest {
    private static final Checks CHECKS = new Checks();

    public static void main(String[] args) {
        rowsOutward();
        rowsInward();
        noMove();
        alongAllOfItsLength();
        rowsBeyondTheGrid();
        moreRowsThanThereAre();
        CHECKS.sentence("then PIECE by PIECE");
        CHECKS.due("the one that puts in is later", isInAfterBoth(true), true);
        CHECKS.due("the one that takes out is later", isInAfterBoth(false), false);
        barsComeLast();
        CHECKS.finish();
    }

    private static void rowsOutward() {
        CHECKS.sentence("a MOVE m above 0 puts the m rows of CELLS OUTWARD beside it into it");
        for (int v = 1; v <= 6; v++) {
            Trial m = CHECKS.plain(20, 20, 30, 30);
            m.cut(48);
            m.shift(1, v);
            CHECKS.dueCells("along x, " + v, m, 1, Checks.box(20, 20 - v, 30, 30 + v));
            m.shift(1, -v);
            m.shift(2, v);
            CHECKS.dueCells("along y, " + v, m, 1, Checks.box(20 - v, 20, 30 + v, 30));
        }
    }

    private static void rowsInward() {
        CHECKS.sentence("below 0 it takes the -m rows on the other hand out");
        for (int v = 1; v <= 6; v++) {
            Trial m = CHECKS.plain(10, 10, 30, 30);
            m.cut(48);
            m.shift(1, -v);
            CHECKS.dueCells("along x, " + -v, m, 1, Checks.box(10, 10 + v, 30, 30 - v));
            m.shift(1, v);
            m.shift(2, -v);
            CHECKS.dueCells("along y, " + -v, m, 1, Checks.box(10 + v, 10, 30 - v, 30));
        }
    }

    private static void noMove() {
        CHECKS.sentence("a MOVE m above 0 puts .. below 0 it takes");
        Trial m = CHECKS.plain(10, 10, 30, 30);
        m.cut(5);
        m.shift(0, 1);
        m.shift(0, -1);
        CHECKS.dueCells("a MOVE of 0", m, 1, Checks.box(10, 10, 30, 30));
    }

    /** Only the ends of the sides move: the cells beside the pieces between them stay as they are. */
    private static void alongAllOfItsLength() {
        CHECKS.sentence("along all of its length");
        Trial m = CHECKS.plain(10, 10, 22, 22);
        m.cut(4);
        m.shift(3, 1);
        int[] in = {10, 11, 12, 13, 18, 19, 20, 21};
        int[] out = {9, 14, 15, 16, 17, 22};
        for (int c : in) {
            CHECKS.due("beside a piece, " + c, m.is(c, 9, 1) && m.is(c, 22, 1), true);
            CHECKS.due("beside a piece, " + c, m.is(9, c, 1) && m.is(22, c, 1), true);
        }
        for (int c : out) {
            CHECKS.due("beside none, " + c, m.is(c, 9, 1) || m.is(c, 22, 1), false);
            CHECKS.due("beside none, " + c, m.is(9, c, 1) || m.is(22, c, 1), false);
        }
        m.shift(3, -2);
        CHECKS.due("taken out", m.is(13, 10, 1) || m.is(18, 10, 1) || m.is(10, 13, 1) || m.is(21, 18, 1), false);
        CHECKS.due("left in", m.is(14, 10, 1) && m.is(17, 10, 1) && m.is(10, 14, 1) && m.is(21, 17, 1), true);
    }

    private static void rowsBeyondTheGrid() {
        CHECKS.sentence("puts the m rows of CELLS OUTWARD beside it into it");
        int[] gaps = {0, 1, 5, 6};
        for (int gap : gaps) {
            Trial m = CHECKS.plain(gap, gap, 48 - gap, 48 - gap);
            m.cut(48);
            CHECKS.due("shift(0, 6)", m.shift(0, 6), 4);
            CHECKS.dueCells("gap " + gap, m, 1,
                Checks.box(0, gap, 48, 48 - gap), Checks.box(gap, 0, 48 - gap, 48));
        }
    }

    /** The rows on the other hand are taken out though they are in another polygon, or in none. */
    private static void moreRowsThanThereAre() {
        CHECKS.sentence("takes the -m rows on the other hand out");
        Trial m = CHECKS.plain(20, 10, 30, 11);
        CHECKS.rectangle(m, 10, 12, 40, 30);
        m.cut(10);
        m.shift(3, -4);
        CHECKS.due("of itself", m.is(25, 10, 1), false);
        CHECKS.due("two rows of the one below", m.is(25, 12, 1) || m.is(25, 13, 1), false);
        CHECKS.due("no more of them", m.is(25, 14, 1), true);

        Trial edge = CHECKS.plain(0, 47, 48, 48);
        edge.cut(48);
        edge.shift(1, -6);
        CHECKS.dueCells("rows beyond the grid", edge, 1);
    }

    /**
     * The large one's middle piece takes (18, 25) out, the small one's left piece puts it in: what
     * is asked is whether it is in the mask then.
     */
    private static boolean isInAfterBoth(boolean largeFirst) {
        Trial m = new Trial();
        if (largeFirst) {
            CHECKS.rectangle(m, 10, 10, 20, 40);
        }
        CHECKS.rectangle(m, 20, 22, 30, 28);
        if (!largeFirst) {
            CHECKS.rectangle(m, 10, 10, 20, 40);
        }
        m.cut(10);
        m.shift(2, -2);
        m.shift(3, 4);
        CHECKS.due("beside the small one's piece", m.is(18, 21, 1), false);
        return m.is(18, 25, 1);
    }

    /** The thin one's sides take out the rows where its bars are. */
    private static void barsComeLast() {
        CHECKS.sentence("then all bars of HELPERS are put into it");
        Trial m = CHECKS.plain(10, 20, 20, 21);
        m.cut(48);
        CHECKS.due("helper(1, 1)", m.helper(1, 1), 2);
        m.shift(1, -6);
        CHECKS.dueCells("the bars alone", m, 1, Checks.box(11, 18, 19, 19), Checks.box(11, 22, 19, 23));
    }
}
