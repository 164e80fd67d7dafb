/** error: the error of a piece at a dose of 100, by the threshold that is told last. */
final class Promise07Test {
    private static final Checks CHECKS = new Checks();

    public static void main(String[] args) {
        tooMuchPrints();
        tooLittlePrints();
        alongTheMiddleAlone();
        numbersThatAreNone();
        noneBeforeACut();
        CHECKS.finish();
    }

    private static void tooMuchPrints() {
        CHECKS.sentence("THE ERROR of a PIECE");
        for (int width = 0; width <= 6; width++) {
            Trial m = new Trial();
            CHECKS.rectangle(m, 15, 15, 30, 30);
            m.kernel(1, width);
            m.cut(48);
            CHECKS.dueErrors("width " + width, m, width, width, width, width);
        }
    }

    /** Behind the edge the image is 15, 20, 25, 25 ..; a run tells the threshold, a cut undoes it. */
    private static void tooLittlePrints() {
        CHECKS.sentence("THE ERROR of a PIECE");
        int[][] thresholdAndError = {
            {5, 2}, {6, 1}, {10, 1}, {11, 0}, {15, 0}, {16, -1}, {20, -1}, {21, -2}, {25, -2}, {26, -8}
        };
        for (int[] each : thresholdAndError) {
            Trial m = new Trial();
            CHECKS.rectangle(m, 10, 10, 20, 20);
            m.kernel(1, 2);
            m.cut(48);
            m.run(1, each[0], 1, 1);
            m.cut(48);
            int e = each[1];
            CHECKS.dueErrors("threshold " + each[0], m, e, e, e, e);
        }
    }

    /** One row or column of cells leaves each side at its middle. */
    private static void alongTheMiddleAlone() {
        CHECKS.sentence("THE ERROR of a PIECE");
        Trial rows = CHECKS.plain(15, 15, 25, 25);
        CHECKS.rectangle(rows, 25, 19, 29, 20);
        CHECKS.rectangle(rows, 10, 19, 15, 20);
        rows.cut(48);
        CHECKS.dueErrors("rows", rows, 0, 4, 0, 5);

        Trial columns = CHECKS.plain(15, 15, 25, 25);
        CHECKS.rectangle(columns, 19, 25, 20, 31);
        CHECKS.rectangle(columns, 19, 8, 20, 15);
        columns.cut(48);
        CHECKS.dueErrors("columns", columns, 7, 0, 6, 0);
    }

    private static void numbersThatAreNone() {
        CHECKS.sentence("0 for none");
        Trial m = new Trial();
        CHECKS.rectangle(m, 10, 10, 20, 20);
        m.kernel(1, 2);
        m.cut(48);
        int[] none = {-1, 4, 5, 119, 120, Integer.MAX_VALUE, Integer.MIN_VALUE};
        for (int number : none) {
            CHECKS.due("error(" + number + ")", m.error(number), 0);
        }
        CHECKS.dueErrors("those that are some", m, 2, 2, 2, 2);
        Trial full = CHECKS.plain(0, 0, 30, 30);
        full.kernel(1, 3);
        full.cut(1);
        CHECKS.due("error(119) is at the edge of the grid", full.error(119), 0);
        CHECKS.due("error(30)", full.error(30), 3);
        CHECKS.due("error(89)", full.error(89), 3);
        CHECKS.due("error(120)", full.error(120), 0);
    }

    private static void noneBeforeACut() {
        CHECKS.sentence("0 for none");
        Trial m = new Trial();
        CHECKS.rectangle(m, 10, 10, 20, 20);
        m.kernel(1, 2);
        CHECKS.due("error(0) before a cut", m.error(0), 0);
        CHECKS.due("error(0) behind a refused cut", m.cut(49) == -2 && m.error(0) == 0, true);
        m.cut(48);
        CHECKS.due("error(0) behind a cut", m.error(0), 2);
    }
}
