/** prints: whether one cell of a bar does, at a dose. */
final class Promise12Test {
    private static final Checks CHECKS = new Checks();

    public static void main(String[] args) {
        oneCellIsEnough();
        firstOrLastCellAlone();
        lastRowAlone();
        cellsBesideDoNotCount();
        barsByTheirNumbers();
        noneIsThere();
        doses();
        dosesOutside();
        CHECKS.finish();
    }

    /** The bars are on y = 6, x = 33, y = 33 and x = 6, each from 16 to 24. */
    private static Trial withBars(int weight, int width) {
        Trial m = new Trial();
        CHECKS.rectangle(m, 15, 15, 25, 25);
        m.kernel(weight, width);
        m.cut(48);
        CHECKS.due("helper(8, 1)", m.helper(8, 1), 4);
        return m;
    }

    /** A run tells the threshold, a cut takes its MOVES back. */
    private static void tellThreshold(Trial m, int threshold) {
        m.run(1, threshold, 1, 1);
        m.cut(48);
    }

    /** Along a bar the image is 2, 3 .. 3, 2. */
    private static void oneCellIsEnough() {
        CHECKS.sentence("Whether a CELL of a bar PRINTS");
        Trial m = withBars(1, 1);
        tellThreshold(m, 2);
        CHECKS.due("all print", m.prints(0, 100), true);
        tellThreshold(m, 3);
        CHECKS.due("its end does not print", m.is(16, 6, 2), false);
        CHECKS.due("all but the ends print", m.prints(0, 100), true);
        tellThreshold(m, 4);
        for (int bar = 0; bar < 4; bar++) {
            CHECKS.due("none prints, though the target does", m.prints(bar, 100), false);
        }
    }

    /** Two CELLS of another polygon behind an end of a bar: the end has an image of 4, others have 3. */
    private static void firstOrLastCellAlone() {
        CHECKS.sentence("Whether a CELL of a bar PRINTS");
        int[][] behind = {
            {15, 5, 16, 7}, {24, 5, 25, 7}, {33, 15, 35, 16}, {33, 24, 35, 25},
            {15, 33, 16, 35}, {24, 33, 25, 35}, {5, 15, 7, 16}, {5, 24, 7, 25}
        };
        for (int i = 0; i < behind.length; i++) {
            int[] b = behind[i];
            Trial m = new Trial();
            CHECKS.rectangle(m, 15, 15, 25, 25);
            CHECKS.rectangle(m, b[0], b[1], b[2], b[3]);
            m.kernel(1, 1);
            m.cut(48);
            CHECKS.due("helper(8, 1)", m.helper(8, 1), 4);
            tellThreshold(m, 4);
            for (int bar = 0; bar < 4; bar++) {
                CHECKS.due("end " + i + ", prints(" + bar + ", 100)", m.prints(bar, 100), bar == i / 2);
            }
            tellThreshold(m, 5);
            CHECKS.due("end " + i + ", not above that", m.prints(i / 2, 100), false);
        }
    }

    /** A bar of two rows with three CELLS of another polygon beside its last one. */
    private static void lastRowAlone() {
        CHECKS.sentence("Whether a CELL of a bar PRINTS");
        Trial m = new Trial();
        CHECKS.rectangle(m, 10, 10, 20, 14);
        CHECKS.rectangle(m, 14, 18, 17, 19);
        m.kernel(1, 1);
        m.cut(48);
        CHECKS.due("helper(2, 2)", m.helper(2, 2), 2);
        tellThreshold(m, 9);
        CHECKS.due("the last of two rows alone", m.is(15, 16, 2), false);
        CHECKS.due("the last of two rows alone", m.is(15, 17, 2), true);
        CHECKS.due("so the bar prints", m.prints(1, 100), true);
    }

    /** The small one's bars touch the large one, which prints up to its edge, but they do not. */
    private static void cellsBesideDoNotCount() {
        CHECKS.sentence("Whether a CELL of a bar PRINTS");
        int[][] larges = {{10, 28, 30, 40}, {28, 10, 40, 30}, {10, 0, 30, 12}, {0, 10, 12, 30}};
        int[] bars = {2, 1, 0, 3};
        for (int i = 0; i < larges.length; i++) {
            Trial m = new Trial();
            CHECKS.rectangle(m, 15, 15, 25, 25);
            CHECKS.rectangle(m, larges[i][0], larges[i][1], larges[i][2], larges[i][3]);
            m.kernel(1, 1);
            m.cut(48);
            m.helper(2, 1);
            tellThreshold(m, 9);
            int x = Math.max(larges[i][0], Math.min(20, larges[i][2] - 1));
            int y = Math.max(larges[i][1], Math.min(20, larges[i][3] - 1));
            CHECKS.due("the cell beside bar " + bars[i] + " prints", m.is(x, y, 2), true);
            CHECKS.due("the bar " + bars[i] + " does not", m.prints(bars[i], 100), false);
        }
    }

    /** Three CELLS along one bar make it print, and no other one. */
    private static void barsByTheirNumbers() {
        CHECKS.sentence("Whether a CELL of a bar PRINTS");
        int[][] beside = {{19, 5, 22, 6}, {34, 19, 35, 22}, {19, 34, 22, 35}, {5, 19, 6, 22}};
        for (int i = 0; i < 4; i++) {
            Trial m = new Trial();
            CHECKS.rectangle(m, 15, 15, 25, 25);
            CHECKS.rectangle(m, beside[i][0], beside[i][1], beside[i][2], beside[i][3]);
            m.kernel(1, 1);
            m.cut(48);
            m.helper(8, 1);
            tellThreshold(m, 6);
            for (int bar = 0; bar < 4; bar++) {
                CHECKS.due("cells beside " + i + ", prints(" + bar + ", 100)", m.prints(bar, 100), bar == i);
            }
        }
    }

    private static void noneIsThere() {
        CHECKS.sentence("false for none");
        Trial m = withBars(20, 0);
        CHECKS.due("prints(0, 100)", m.prints(0, 100), true);
        CHECKS.due("prints(3, 100)", m.prints(3, 100), true);
        int[] bars = {-1, 4, 23, 24, Integer.MAX_VALUE, Integer.MIN_VALUE};
        for (int bar : bars) {
            CHECKS.due("prints(" + bar + ", 100)", m.prints(bar, 100), false);
        }
        CHECKS.due("a new object", new Trial().prints(0, 100), false);
    }

    private static void doses() {
        CHECKS.sentence("PRINTS at a dose (1 .. 1000)");
        Trial m = withBars(1, 0);
        for (int bar = 0; bar < 4; bar++) {
            CHECKS.due("prints(" + bar + ", 100)", m.prints(bar, 100), true);
            CHECKS.due("prints(" + bar + ", 99)", m.prints(bar, 99), false);
            CHECKS.due("prints(" + bar + ", 1000)", m.prints(bar, 1000), true);
            CHECKS.due("prints(" + bar + ", 1)", m.prints(bar, 1), false);
        }
        tellThreshold(m, 10);
        CHECKS.due("threshold 10, dose 1000", m.prints(0, 1000), true);
        CHECKS.due("threshold 10, dose 999", m.prints(0, 999), false);
        tellThreshold(m, 11);
        CHECKS.due("threshold 11, dose 1000", m.prints(0, 1000), false);
        CHECKS.due("image 100 at dose 1", withBars(20, 2).prints(0, 1), true);
        CHECKS.due("image 95 at dose 1", withBars(19, 2).prints(0, 1), false);
        CHECKS.due("an image below 0", withBars(-1, 0).prints(0, 1000), false);
        CHECKS.due("an image of 0", withBars(0, 0).prints(0, 1000), false);
    }

    private static void dosesOutside() {
        CHECKS.sentence("at a dose (1 .. 1000); false for none");
        Trial m = withBars(20, 6);
        CHECKS.due("prints(0, 1)", m.prints(0, 1), true);
        CHECKS.due("prints(0, 1000)", m.prints(0, 1000), true);
        int[] doses = {0, -1, 1001, Integer.MAX_VALUE, Integer.MIN_VALUE};
        for (int dose : doses) {
            CHECKS.due("prints(0, " + dose + ")", m.prints(0, dose), false);
        }
        Trial dark = withBars(-20, 6);
        CHECKS.due("an image below 0 at a dose below 0", dark.prints(0, -1), false);
        CHECKS.due("an image below 0 at a dose below 0", dark.prints(0, -1000), false);
    }
}
