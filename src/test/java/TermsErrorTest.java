/** Terms: the error of a piece, and the worst error. */
final class TermsErrorTest {
    private static final Checks CHECKS = new Checks();

    public static void main(String[] args) {
        flatOnes();
        cellsThatPrintOutward();
        cellsThatDoNotPrintInward();
        gapOutward();
        gapInward();
        noneBeyondTheGridOutward();
        noneBeyondTheGridInward();
        greatestWithoutItsSign();
        worstOfNoError();
        worstIsEight();
        CHECKS.finish();
    }

    private static void flatOnes() {
        CHECKS.sentence("THE ERROR of a PIECE (0 for FLAT ones)");
        Trial m = CHECKS.crossing();
        m.kernel(1, 1);
        m.cut(8);
        CHECKS.dueErrors("1 and 7 are flat", m, 1, 0, 1, 1, 1, 1, 1, 0, 1);
        m.run(1, 100_000, 1, 1);
        m.cut(8);
        CHECKS.dueErrors("nothing prints", m, -8, 0, -8, -8, -8, -8, -8, 0, -8);
    }

    /** Another polygon of so many rows lies beside each side of the square in turn. */
    private static void cellsThatPrintOutward() {
        CHECKS.sentence("if it PRINTS, how many CELLS behind it OUTWARD do without a gap, 8 at most");
        for (int n = 1; n <= 10; n++) {
            int want = Math.min(n, 8);
            int[][] beside = {
                {20, 20 - n, 28, 20}, {28, 20, 28 + n, 28}, {20, 28, 28, 28 + n}, {20 - n, 20, 20, 28}
            };
            for (int side = 0; side < 4; side++) {
                Trial m = CHECKS.plain(20, 20, 28, 28);
                CHECKS.rectangle(m, beside[side][0], beside[side][1], beside[side][2], beside[side][3]);
                m.cut(48);
                for (int piece = 0; piece < 4; piece++) {
                    CHECKS.due(n + " rows beside side " + side + ", error(" + piece + ")",
                        m.error(piece), piece == side ? want : 0);
                }
            }
        }
        Trial alone = CHECKS.plain(20, 20, 28, 28);
        alone.cut(48);
        CHECKS.dueErrors("none behind it", alone, 0, 0, 0, 0);
    }

    /**
     * With a width of 6 and all of its 169 CELLS asked, the first print is 6 rows behind where the
     * mask begins: with MOVES of -k the 6 + k rows before it do not print.
     */
    private static void cellsThatDoNotPrintInward() {
        CHECKS.sentence("as far below 0 as that one and those behind it inward do not, 8 at most");
        for (int k = 0; k <= 6; k++) {
            Trial m = new Trial();
            CHECKS.rectangle(m, 2, 2, 46, 46);
            m.kernel(1, 6);
            m.cut(48);
            m.run(1, 169, 1, 1);
            m.cut(48);
            m.shift(0, -k);
            int want = -Math.min(6 + k, 8);
            CHECKS.dueErrors(6 + k + " rows do not print", m, want, want, want, want);
        }
        for (int k = 0; k <= 6; k++) {
            Trial m = CHECKS.plain(10, 10, 40, 40);
            m.cut(48);
            m.shift(0, -k);
            CHECKS.dueErrors(k + " rows do not print", m, -k, -k, -k, -k);
        }
    }

    /** Rows that print, one that does not, and rows that do again. */
    private static void gapOutward() {
        CHECKS.sentence("do without a gap");
        for (int n = 0; n <= 8; n++) {
            Trial m = CHECKS.plain(10, 20, 20, 30);
            if (n > 0) {
                CHECKS.rectangle(m, 10, 20 - n, 20, 20);
            }
            CHECKS.rectangle(m, 10, 10, 20, 20 - n - 1);
            m.cut(48);
            CHECKS.due("a gap behind " + n, m.error(0), n);
        }
    }

    /** Two rows at the top and the bottom do not print, the two between them do. */
    private static void gapInward() {
        CHECKS.sentence("that one and those behind it inward do not");
        Trial m = CHECKS.plain(10, 10, 20, 16);
        m.cut(48);
        m.shift(1, -2);
        CHECKS.due("error(0)", m.error(0), -2);
        CHECKS.due("error(2)", m.error(2), -2);
        m.shift(1, -1);
        CHECKS.due("nothing prints, also behind the other side", m.error(0), -8);
        CHECKS.due("nothing prints, also behind the other side", m.error(2), -8);
    }

    /** A square n CELLS off one edge of the grid, and all between them prints. */
    private static void noneBeyondTheGridOutward() {
        CHECKS.sentence("(Beyond the grid there are none.)");
        for (int n = 0; n <= 9; n++) {
            int want = Math.min(n, 8);
            int[][] squares = {
                {20, n, 28, 28}, {20, 20, 48 - n, 28}, {20, 20, 28, 48 - n}, {n, 20, 28, 28}
            };
            int[][] between = {{20, 0, 28, n}, {48 - n, 20, 48, 28}, {20, 48 - n, 28, 48}, {0, 20, n, 28}};
            for (int side = 0; side < 4; side++) {
                int[] s = squares[side];
                Trial m = CHECKS.plain(s[0], s[1], s[2], s[3]);
                if (n > 0) {
                    int[] b = between[side];
                    CHECKS.rectangle(m, b[0], b[1], b[2], b[3]);
                }
                m.cut(48);
                CHECKS.due(n + " cells to the edge, side " + side, m.error(side), want);
            }
        }
    }

    /** Nothing prints in a rectangle that goes n CELLS from one edge of the grid. */
    private static void noneBeyondTheGridInward() {
        CHECKS.sentence("(Beyond the grid there are none.)");
        for (int n = 1; n <= 9; n++) {
            int want = -Math.min(n, 8);
            int[][] rectangles = {
                {20, 48 - n, 28, 48}, {0, 20, n, 28}, {20, 0, 28, n}, {48 - n, 20, 48, 28}
            };
            for (int side = 0; side < 4; side++) {
                int[] r = rectangles[side];
                Trial m = new Trial();
                CHECKS.rectangle(m, r[0], r[1], r[2], r[3]);
                m.cut(48);
                CHECKS.due(n + " cells to the edge, side " + side, m.error(side), want);
            }
        }
    }

    private static void greatestWithoutItsSign() {
        CHECKS.sentence("THE WORST ERROR is the greatest without its sign");
        int[][] movesAndWorst = {{2, -3, 3}, {3, -2, 3}, {-3, 2, 3}, {-2, -1, 2}, {0, -1, 1}, {1, 0, 1}, {-4, 4, 4}};
        for (int[] each : movesAndWorst) {
            Trial m = CHECKS.plain(15, 15, 30, 30);
            m.cut(48);
            m.shift(1, each[0]);
            m.shift(2, each[1]);
            m.run(1, 1, 1, 6);
            CHECKS.due("errors " + each[0] + " and " + each[1], m.worst(0), each[2]);
        }
    }

    private static void worstOfNoError() {
        CHECKS.sentence("THE WORST ERROR is the greatest without its sign");
        Trial m = CHECKS.plain(15, 15, 30, 30);
        m.cut(48);
        m.run(1, 1, 1, 6);
        CHECKS.due("no error", m.worst(0), 0);
    }

    private static void worstIsEight() {
        CHECKS.sentence("THE WORST ERROR is the greatest without its sign");
        Trial dark = CHECKS.plain(15, 15, 30, 30);
        dark.cut(48);
        dark.run(1, 100_000, 1, 6);
        CHECKS.due("errors of -8", dark.worst(0), 8);
        Trial bright = CHECKS.plain(15, 15, 30, 30);
        CHECKS.rectangle(bright, 15, 0, 30, 15);
        bright.cut(48);
        bright.run(1, 1, 1, 6);
        CHECKS.due("errors of 8", bright.worst(0), 8);
    }
}
