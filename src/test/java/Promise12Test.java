/** prints: whether one cell of a bar does, at a dose. */
final class Promise12Test {
    private static final Checks CHECKS = new Checks();

    public static void main(String[] args) {
        doses();
        oneCellIsEnough();
        cellsBesideDoNotCount();
        none();
        CHECKS.finish();
    }

    private static Trial withBars(int weight, int width) {
        Trial m = new Trial();
        CHECKS.rectangle(m, 15, 15, 25, 25);
        m.kernel(weight, width);
        m.cut(48);
        CHECKS.due("helper(8, 1)", m.helper(8, 1), 4);
        return m;
    }

    private static void doses() {
        Trial m = withBars(1, 0);
        for (int bar = 0; bar < 4; bar++) {
            CHECKS.due("prints(" + bar + ", 100)", m.prints(bar, 100), true);
            CHECKS.due("prints(" + bar + ", 99)", m.prints(bar, 99), false);
            CHECKS.due("prints(" + bar + ", 1000)", m.prints(bar, 1000), true);
            CHECKS.due("prints(" + bar + ", 1)", m.prints(bar, 1), false);
        }
        m.run(1, 10, 1, 1);
        CHECKS.due("threshold 10, dose 1000", m.prints(0, 1000), true);
        CHECKS.due("threshold 10, dose 999", m.prints(0, 999), false);
        Trial bright = withBars(20, 2);
        CHECKS.due("image 100 at dose 1", bright.prints(0, 1), true);
        Trial dark = withBars(-1, 0);
        CHECKS.due("an image below 0", dark.prints(0, 1000), false);
    }

    /** Along a bar the image is 2, 3 .. 3, 2. */
    private static void oneCellIsEnough() {
        Trial m = withBars(1, 1);
        m.run(1, 3, 1, 1);
        CHECKS.due("its end does not print", m.is(16, 6, 2), false);
        CHECKS.due("all but the ends print", m.prints(0, 100), true);
        m.run(1, 4, 1, 1);
        for (int bar = 0; bar < 4; bar++) {
            CHECKS.due("none prints, though the target does", m.prints(bar, 100), false);
        }
        lastCellOnly();
    }

    private static void lastCellOnly() {
        Trial m = new Trial();
        CHECKS.rectangle(m, 15, 15, 25, 25);
        CHECKS.rectangle(m, 24, 6, 27, 7);
        m.kernel(1, 1);
        m.cut(48);
        m.helper(8, 1);
        m.run(1, 4, 1, 1);
        m.cut(48);
        CHECKS.due("no print at the beginning", m.prints(0, 100), false);
        m.run(1, 3, 1, 1);
        m.cut(48);
        CHECKS.due("its last cell has two and one more", m.is(23, 6, 2), true);
        CHECKS.due("so it prints", m.prints(0, 100), true);
    }

    /** The small one's bars touch the large one, which prints up to its edge, but they do not. */
    private static void cellsBesideDoNotCount() {
        int[][] larges = {{10, 28, 30, 40}, {28, 10, 40, 30}, {10, 0, 30, 12}, {0, 10, 12, 30}};
        int[] bars = {2, 1, 0, 3};
        for (int i = 0; i < larges.length; i++) {
            Trial m = new Trial();
            CHECKS.rectangle(m, 15, 15, 25, 25);
            CHECKS.rectangle(m, larges[i][0], larges[i][1], larges[i][2], larges[i][3]);
            m.kernel(1, 1);
            m.cut(48);
            m.helper(2, 1);
            m.run(1, 9, 1, 1);
            m.cut(48);
            int x = Math.max(larges[i][0], Math.min(20, larges[i][2] - 1));
            int y = Math.max(larges[i][1], Math.min(20, larges[i][3] - 1));
            CHECKS.due("the cell beside bar " + bars[i] + " prints", m.is(x, y, 2), true);
            CHECKS.due("the bar " + bars[i] + " does not", m.prints(bars[i], 100), false);
        }
    }

    private static void none() {
        Trial m = withBars(20, 0);
        int[] bars = {-1, 4, 24, Integer.MAX_VALUE, Integer.MIN_VALUE};
        for (int bar : bars) {
            CHECKS.due("prints(" + bar + ", 100)", m.prints(bar, 100), false);
        }
        int[] doses = {0, -1, 1001, Integer.MAX_VALUE, Integer.MIN_VALUE};
        for (int dose : doses) {
            CHECKS.due("prints(0, " + dose + ")", m.prints(0, dose), false);
        }
        CHECKS.due("prints(0, 5)", m.prints(0, 5), true);
    }
}
