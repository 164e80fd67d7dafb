/** error: cells that print outward of the cell inside, or that do not from it inward. */
final class Promise07Test {
    private static final Checks CHECKS = new Checks();

    public static void main(String[] args) {
        tooMuchPrints();
        tooLittlePrints();
        eightAtMost();
        gapsEndIt();
        alongTheMiddleAlone();
        gridsEdge();
        flatOnes();
        none();
        CHECKS.finish();
    }

    private static void tooMuchPrints() {
        for (int width = 0; width <= 6; width++) {
            Trial m = new Trial();
            CHECKS.rectangle(m, 15, 15, 30, 30);
            m.kernel(1, width);
            m.cut(48);
            CHECKS.dueErrors("width " + width, m, width, width, width, width);
        }
    }

    /** Behind the edge the image is 15, 20, 25, 25 ..; a run tells the threshold, a cut undoes it. */
    private static void tooLittlePrints() {
        int[][] thresholdAndError = {{5, 2}, {6, 1}, {10, 1}, {11, 0}, {15, 0}, {16, -1}, {20, -1}, {25, -2}};
        for (int[] each : thresholdAndError) {
            Trial m = new Trial();
            CHECKS.rectangle(m, 10, 10, 20, 20);
            m.kernel(1, 2);
            m.cut(48);
            m.run(1, each[0], 1, 1);
            m.cut(48);
            int e = each[1];
            CHECKS.dueErrors("threshold " + each[0], m, e, e, e, e);
        }
    }

    private static void eightAtMost() {
        Trial m = CHECKS.plain(10, 20, 20, 40);
        CHECKS.rectangle(m, 10, 10, 20, 20);
        m.cut(48);
        CHECKS.dueErrors("ten cells behind", m, 8, 0, 0, 0, 0, 0, 8, 0);
        m.run(1, 100_000, 1, 1);
        m.cut(48);
        CHECKS.dueErrors("nothing prints", m, -8, -8, -8, -8, -8, -8, -8, -8);
    }

    private static void gapsEndIt() {
        Trial m = CHECKS.plain(10, 20, 20, 40);
        CHECKS.rectangle(m, 10, 17, 20, 20);
        CHECKS.rectangle(m, 10, 10, 20, 16);
        m.cut(48);
        CHECKS.due("a gap behind three", m.error(0), 3);

        Trial hole = CHECKS.plain(10, 10, 20, 30);
        hole.kernel(-1, 1);
        hole.kernel(1, 1);
        hole.cut(48);
        hole.shift(1, -3);
        CHECKS.dueErrors("three rows out", hole, -3, 0, -3, 0);
    }

    /** One row or column of cells leaves each side at its middle. */
    private static void alongTheMiddleAlone() {
        Trial flatBars = CHECKS.plain(15, 15, 25, 25);
        CHECKS.rectangle(flatBars, 25, 19, 29, 20);
        CHECKS.rectangle(flatBars, 10, 19, 15, 20);
        flatBars.cut(48);
        CHECKS.dueErrors("rows", flatBars, 0, 4, 0, 5);

        Trial upright = CHECKS.plain(15, 15, 25, 25);
        CHECKS.rectangle(upright, 19, 25, 20, 31);
        CHECKS.rectangle(upright, 19, 8, 20, 15);
        upright.cut(48);
        CHECKS.dueErrors("columns", upright, 7, 0, 6, 0);
    }

    private static void gridsEdge() {
        Trial m = CHECKS.plain(10, 5, 20, 20);
        CHECKS.rectangle(m, 10, 0, 20, 5);
        m.cut(48);
        CHECKS.dueErrors("five cells to the edge", m, 5, 0, 0, 0, 0, 0, 8, 0);
        m.run(1, 100_000, 1, 1);
        m.cut(48);
        CHECKS.due("inward to the edge", m.error(6), -5);

        Trial all = CHECKS.plain(0, 0, 48, 48);
        all.cut(48);
        CHECKS.dueErrors("the whole grid", all, 0, 0, 0, 0);
    }

    /** Piece 1 and 7 have the polygon on no hand; piece 0 and 8 of the same sides have it on one. */
    private static void flatOnes() {
        Trial m = new Trial();
        CHECKS.closed(m, 4, 4, 20, 4, 20, 20, 12, 20, 12, 4, 28, 4, 28, 30, 4, 30);
        m.kernel(1, 1);
        CHECKS.due("cut(4): flat ones have other numbers then", m.cut(4), 38);
        CHECKS.due("cut(8)", m.cut(8), 20);
        CHECKS.dueErrors("flat", m, 1, 0, 1, 1, 1, 1, 1, 0, 1);
    }

    private static void none() {
        Trial m = new Trial();
        CHECKS.rectangle(m, 10, 10, 20, 20);
        m.kernel(1, 2);
        m.cut(48);
        int[] numbers = {-1, 4, 120, Integer.MAX_VALUE, Integer.MIN_VALUE};
        for (int number : numbers) {
            CHECKS.due("error(" + number + ")", m.error(number), 0);
        }
    }
}
