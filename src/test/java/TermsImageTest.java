/** Terms: the image by kernels, and what prints at a dose. */
final class TermsImageTest {
    private static final Checks CHECKS = new Checks();

    public static void main(String[] args) {
        noKernel();
        atMostItsWidthAway();
        sixKernels();
        cellsBeyondTheGrid();
        atLeastTheThreshold();
        doseInHundredths();
        greatestOfAll();
        thresholdIsOneAtFirst();
        CHECKS.finish();
    }

    private static void noKernel() {
        CHECKS.sentence("of each KERNEL (at most 6) its weight by how many CELLS of THE MASK");
        Trial m = new Trial();
        CHECKS.rectangle(m, 10, 10, 20, 20);
        CHECKS.due("image without a kernel", m.image(15, 15), 0);
        CHECKS.due("it does not print", m.is(15, 15, 2), false);
    }

    /** The mask is the one CELL (24, 24). */
    private static void atMostItsWidthAway() {
        CHECKS.sentence("are at most its width away in x and in y");
        for (int width = 0; width <= 6; width++) {
            Trial m = new Trial();
            CHECKS.rectangle(m, 24, 24, 25, 25);
            m.kernel(3, width);
            for (int far = 0; far <= 8; far++) {
                int want = far <= width ? 3 : 0;
                String when = "width " + width + ", " + far + " away";
                CHECKS.due(when + " in x", m.image(24 - far, 24), want);
                CHECKS.due(when + " in x", m.image(24 + far, 24), want);
                CHECKS.due(when + " in y", m.image(24, 24 - far), want);
                CHECKS.due(when + " in y", m.image(24, 24 + far), want);
                CHECKS.due(when + " in both", m.image(24 + far, 24 + far), want);
                CHECKS.due(when + " in both", m.image(24 - far, 24 + far), want);
                CHECKS.due(when + " in x, width in y", m.image(24 + far, 24 + width), want);
                CHECKS.due(when + " in y, width in x", m.image(24 - width, 24 - far), want);
            }
        }
    }

    private static void sixKernels() {
        CHECKS.sentence("of each KERNEL (at most 6)");
        Trial m = new Trial();
        CHECKS.rectangle(m, 10, 10, 40, 40);
        int[] weights = {1, -2, 4, -8, 16, 20};
        int sum = 0;
        for (int width = 0; width < 6; width++) {
            CHECKS.due("kernel", m.kernel(weights[width], width), width);
            int across = 2 * width + 1;
            sum += weights[width] * across * across;
            CHECKS.due(width + 1 + " kernels", m.image(25, 25), sum);
        }
        CHECKS.changesNothing("a seventh", m, t -> CHECKS.due("a seventh", t.kernel(1, 1), -4));
        CHECKS.due("image behind it", m.image(25, 25), sum);
    }

    private static void cellsBeyondTheGrid() {
        CHECKS.sentence("how many CELLS of THE MASK are at most its width away");
        Trial m = new Trial();
        CHECKS.rectangle(m, 0, 0, 48, 48);
        m.kernel(1, 6);
        int[][] columnAndCells = {{0, 7}, {1, 8}, {5, 12}, {6, 13}, {41, 13}, {42, 12}, {46, 8}, {47, 7}};
        for (int[] x : columnAndCells) {
            for (int[] y : columnAndCells) {
                CHECKS.due("image(" + x[0] + ", " + y[0] + ")", m.image(x[0], y[0]), x[1] * y[1]);
            }
        }
    }

    /** The image is 10 in the rectangle, and 0 beside it. */
    private static void atLeastTheThreshold() {
        CHECKS.sentence("if THE IMAGE by the dose is at least 100 by THE THRESHOLD");
        int[][] thresholdAndPrints = {{1, 1}, {9, 1}, {10, 1}, {11, 0}, {100_000, 0}};
        for (int[] each : thresholdAndPrints) {
            Trial m = tenThick();
            m.run(1, each[0], 1, 1);
            m.cut(48);
            CHECKS.due("image 10, threshold " + each[0], m.is(15, 15, 2), each[1] == 1);
            CHECKS.due("image 0, threshold " + each[0], m.is(5, 5, 2), false);
        }
    }

    private static Trial tenThick() {
        Trial m = new Trial();
        CHECKS.rectangle(m, 10, 10, 20, 20);
        m.kernel(10, 0);
        m.cut(48);
        return m;
    }

    /** An image of 10 at the dose told is compared with the threshold: 49 and 50 hundredths of it. */
    private static void doseInHundredths() {
        CHECKS.sentence("PRINTS at a dose (in hundredths; 100 where none is told)");
        Trial m = tenThick();
        m.run(1, 5, 1, 1);
        m.cut(48);
        CHECKS.due("10 by 50 hundredths, threshold 5", m.edge(0, 50), 0);
        CHECKS.due("10 by 49 hundredths, threshold 5", m.edge(0, 49), -8);
        m.run(1, 10, 1, 1);
        m.cut(48);
        CHECKS.due("at 100, threshold 10", m.edge(0, 100), 0);
        CHECKS.due("at 99, threshold 10", m.edge(0, 99), -8);
        CHECKS.due("none told, threshold 10", m.error(0), 0);
        CHECKS.due("none told, threshold 10", m.is(15, 15, 2), true);
        m.run(1, 11, 1, 1);
        m.cut(48);
        CHECKS.due("at 109, threshold 11", m.edge(0, 109), -8);
        CHECKS.due("at 110, threshold 11", m.edge(0, 110), 0);
        CHECKS.due("none told, threshold 11", m.error(0), -8);
        CHECKS.due("none told, threshold 11", m.is(15, 15, 2), false);
    }

    /** At the edge of the grid the greatest image is 120 by 91, and one row inward it is 120 by 104. */
    private static void greatestOfAll() {
        CHECKS.sentence("if THE IMAGE by the dose is at least 100 by THE THRESHOLD");
        Trial m = new Trial();
        CHECKS.rectangle(m, 0, 0, 48, 48);
        for (int i = 0; i < 6; i++) {
            m.kernel(20, 6);
        }
        m.cut(48);
        m.run(1, 100_000, 1, 1);
        m.cut(48);
        CHECKS.due("10920 by 916, threshold 100000", m.edge(0, 916), 0);
        CHECKS.due("10920 by 915, threshold 100000", m.edge(0, 915), -1);
        CHECKS.due("10920 by 1000, threshold 100000", m.edge(0, 1000), 0);
    }

    private static void thresholdIsOneAtFirst() {
        CHECKS.sentence("THE THRESHOLD (1 at first)");
        int[][] weightAndPrints = {{-1, 0}, {0, 0}, {1, 1}, {2, 1}};
        for (int[] each : weightAndPrints) {
            Trial m = new Trial();
            CHECKS.rectangle(m, 10, 10, 20, 20);
            m.kernel(each[0], 0);
            CHECKS.due("an image of " + each[0], m.is(15, 15, 2), each[1] == 1);
        }
        Trial m = CHECKS.plain(10, 10, 20, 20);
        m.cut(48);
        CHECKS.due("an image of 1 at 100", m.edge(0, 100), 0);
        CHECKS.due("an image of 1 at 99", m.edge(0, 99), -8);
    }
}
