/** cut: all pieces anew, what it leaves as it is, and what it refuses. */
final class Promise05Test {
    private static final Checks CHECKS = new Checks();

    public static void main(String[] args) {
        lengths();
        noLongerThanTold();
        howMany();
        allAnew();
        withoutMoves();
        barsStay();
        noneIsClosed();
        moreThanMost();
        CHECKS.finish();
    }

    private static void lengths() {
        CHECKS.sentence("no longer than told (1 .. 48) .. -2");
        int[] out = {0, -1, 49, Integer.MAX_VALUE, Integer.MIN_VALUE};
        for (int length : out) {
            CHECKS.due("cut(" + length + ") of nothing", new Trial().cut(length), -2);
            Trial m = CHECKS.plain(10, 10, 20, 20);
            CHECKS.changesNothing("cut(" + length + ")", m,
                t -> CHECKS.due("cut(" + length + ")", t.cut(length), -2));
            m.cut(5);
            m.shift(3, 2);
            CHECKS.changesNothing("cut(" + length + ") with pieces", m,
                t -> CHECKS.due("cut(" + length + ")", t.cut(length), -2));
        }
        int[][] lengthAndPieces = {{1, 40}, {2, 20}, {47, 4}, {48, 4}};
        for (int[] each : lengthAndPieces) {
            Trial m = CHECKS.plain(10, 10, 20, 20);
            CHECKS.due("cut(" + each[0] + ")", m.cut(each[0]), each[1]);
        }
    }

    private static void noLongerThanTold() {
        CHECKS.sentence("All PIECES anew, no longer than told");
        Trial m = CHECKS.plain(0, 0, 48, 2);
        CHECKS.due("a side of 48, cut(48)", m.cut(48), 4);
        CHECKS.due("a side of 48, cut(47)", m.cut(47), 6);
        m.shift(3, -1);
        CHECKS.due("24 each", m.is(23, 0, 1) || m.is(24, 0, 1), false);
        CHECKS.due("a side of 48, cut(16)", m.cut(16), 8);
        m.shift(3, -1);
        CHECKS.due("16 each", m.is(15, 0, 1) || m.is(32, 0, 1), false);
        CHECKS.due("the middle one of them", m.is(16, 0, 1) && m.is(31, 0, 1), true);
    }

    private static void howMany() {
        CHECKS.sentence("without MOVES (bars of HELPERS stay): how many");
        int[][] lengthAndPieces = {{48, 4}, {30, 4}, {29, 6}, {10, 8}, {9, 12}, {7, 14}, {1, 80}, {2, 40}};
        Trial m = CHECKS.plain(5, 5, 15, 35);
        int open = m.polygon();
        CHECKS.corners(m, open, 20, 10, 30, 10);
        for (int[] each : lengthAndPieces) {
            CHECKS.due("10 by 30, cut(" + each[0] + ")", m.cut(each[0]), each[1]);
        }
    }

    /** Those of the cut before are gone, though there were more of them. */
    private static void allAnew() {
        CHECKS.sentence("All PIECES anew");
        Trial m = CHECKS.plain(10, 10, 20, 20);
        m.cut(1);
        m.shift(0, 1);
        CHECKS.due("moved(39)", m.moved(39), 1);
        CHECKS.due("cut(48)", m.cut(48), 4);
        CHECKS.due("shift(0, 2)", m.shift(0, 2), 4);
        int[] gone = {4, 5, 39};
        for (int piece : gone) {
            CHECKS.due("moved(" + piece + ")", m.moved(piece), 0);
            CHECKS.due("error(" + piece + ")", m.error(piece), 0);
            CHECKS.due("edge(" + piece + ", 1000)", m.edge(piece, 1000), 0);
            CHECKS.due("alike(" + piece + ", itself)", m.alike(piece, piece), false);
        }
        CHECKS.due("a run of those that are there", m.run(20, 1, 1, 6), 2);
        CHECKS.due("more again", m.cut(5), 8);
        CHECKS.due("shift(0, 1)", m.shift(0, 1), 8);
    }

    private static void withoutMoves() {
        CHECKS.sentence("All PIECES anew, no longer than told (1 .. 48), without MOVES");
        int[] moves = {-6, -1, 1, 6};
        for (int v : moves) {
            Trial m = CHECKS.plain(10, 10, 30, 30);
            m.cut(5);
            m.shift(0, v);
            CHECKS.due("cut(5)", m.cut(5), 16);
            CHECKS.dueMoves("moves of " + v + " before", m, 0, 0, 0, 0, 0, 0, 0, 0, 0, 0, 0, 0, 0, 0, 0, 0);
            CHECKS.dueCells("moves of " + v + " before", m, 1, Checks.box(10, 10, 30, 30));
        }
    }

    private static void barsStay() {
        CHECKS.sentence("(bars of HELPERS stay)");
        Trial m = CHECKS.plain(10, 10, 20, 20);
        m.cut(5);
        m.shift(0, 1);
        CHECKS.due("helper(3, 1)", m.helper(3, 1), 4);
        CHECKS.due("cut(48)", m.cut(48), 4);
        CHECKS.dueCells("the target and the bars", m, 1, Checks.box(10, 10, 20, 20),
            Checks.box(11, 6, 19, 7), Checks.box(23, 11, 24, 19), Checks.box(11, 23, 19, 24), Checks.box(6, 11, 7, 19));
        for (int bar = 0; bar < 4; bar++) {
            CHECKS.due("prints(" + bar + ", 100)", m.prints(bar, 100), true);
        }
        CHECKS.due("no others where they are", m.helper(3, 1), 0);
    }

    private static void noneIsClosed() {
        CHECKS.sentence("-3 no POLYGON is CLOSED");
        Trial m = new Trial();
        CHECKS.due("no polygon", m.cut(5), -3);
        m.polygon();
        CHECKS.due("no corner", m.cut(5), -3);
        CHECKS.corners(m, 0, 10, 10, 20, 10, 20, 20, 10, 20);
        CHECKS.changesNothing("cut(5) of an open one", m, t -> CHECKS.due("cut(5)", t.cut(5), -3));
        m.corner(0, 10, 10);
        CHECKS.due("one is closed", m.cut(5), 8);
        Trial second = new Trial();
        second.polygon();
        second.corner(0, 1, 1);
        CHECKS.rectangle(second, 10, 10, 20, 20);
        CHECKS.due("the second one is closed", second.cut(5), 8);
    }

    private static void moreThanMost() {
        CHECKS.sentence("-4 there would be more than 120");
        CHECKS.due("120 pieces of one", CHECKS.plain(0, 0, 30, 30).cut(1), 120);
        CHECKS.due("122 pieces of one", CHECKS.plain(0, 0, 30, 31).cut(1), -4);
        CHECKS.due("192 pieces of one", CHECKS.plain(0, 0, 48, 48).cut(1), -4);

        Trial m = new Trial();
        for (int i = 0; i < 4; i++) {
            CHECKS.rectangle(m, 12 * i, 0, 12 * i + 10, 40);
        }
        CHECKS.due("of four: 2 and 8 each", m.cut(5), 4 * 20);
        CHECKS.due("of four: 3 and 10 each", m.cut(4), 4 * 26);
        m.shift(3, 2);
        m.helper(1, 1);
        CHECKS.changesNothing("a cut into too many", m, t -> CHECKS.due("4 and 14 each", t.cut(3), -4));
        CHECKS.changesNothing("a cut into far too many", m, t -> CHECKS.due("10 and 40 each", t.cut(1), -4));
    }
}
