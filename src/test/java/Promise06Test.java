/** image: the image at a cell, by all kernels and the mask as it is now. */
final class Promise06Test {
    private static final Checks CHECKS = new Checks();

    public static void main(String[] args) {
        oneKernel();
        kernelsAddUp();
        leastAndGreatest();
        noneBeyondTheGrid();
        byTheMaskNotTheTarget();
        CHECKS.finish();
    }

    private static void oneKernel() {
        CHECKS.sentence("THE IMAGE at a CELL");
        Trial m = new Trial();
        CHECKS.rectangle(m, 10, 10, 20, 20);
        CHECKS.due("no kernel", m.image(15, 15), 0);
        m.kernel(3, 2);
        CHECKS.due("all in", m.image(15, 15), 3 * 25);
        CHECKS.due("beside", m.image(9, 15), 3 * 10);
        CHECKS.due("two away", m.image(8, 15), 3 * 5);
        CHECKS.due("three away", m.image(7, 15), 0);
        CHECKS.due("over the corner", m.image(8, 8), 3);
        CHECKS.due("below the corner", m.image(21, 21), 3);
        CHECKS.due("past the corner", m.image(22, 21), 0);
    }

    private static void kernelsAddUp() {
        CHECKS.sentence("THE IMAGE at a CELL");
        Trial m = CHECKS.plain(10, 10, 20, 20);
        m.kernel(-2, 1);
        m.kernel(20, 6);
        CHECKS.due("inside", m.image(10, 15), 1 - 2 * 6 + 20 * 7 * 10);
        CHECKS.due("outside", m.image(9, 15), -2 * 3 + 20 * 6 * 10);
    }

    /** Six kernels of the greatest weight and width over a full mask. */
    private static void leastAndGreatest() {
        CHECKS.sentence("THE IMAGE at a CELL");
        int[] signs = {-1, 1};
        for (int sign : signs) {
            Trial m = new Trial();
            CHECKS.rectangle(m, 0, 0, 48, 48);
            for (int i = 0; i < 6; i++) {
                m.kernel(20 * sign, 6);
            }
            CHECKS.due("in the middle", m.image(24, 24), sign * 6 * 20 * 169);
            CHECKS.due("in the corner", m.image(47, 0), sign * 6 * 20 * 49);
            CHECKS.due("it prints above 0 alone", m.is(24, 24, 2), sign > 0);
        }
    }

    private static void noneBeyondTheGrid() {
        CHECKS.sentence("0 if it is none");
        Trial m = new Trial();
        CHECKS.rectangle(m, 0, 0, 48, 48);
        m.kernel(1, 6);
        int[] none = {-1, -7, 48, 54, 64, Integer.MAX_VALUE, Integer.MIN_VALUE};
        for (int c : none) {
            CHECKS.due("image(" + c + ", 5)", m.image(c, 5), 0);
            CHECKS.due("image(5, " + c + ")", m.image(5, c), 0);
            CHECKS.due("image(" + c + ", " + c + ")", m.image(c, c), 0);
        }
        int[] some = {0, 47};
        for (int c : some) {
            CHECKS.due("image(" + c + ", 20)", m.image(c, 20), 91);
            CHECKS.due("image(20, " + c + ")", m.image(20, c), 91);
        }
    }

    private static void byTheMaskNotTheTarget() {
        CHECKS.sentence("THE IMAGE at a CELL");
        Trial m = CHECKS.plain(10, 10, 20, 20);
        m.cut(48);
        CHECKS.due("target alone", m.image(15, 8), 0);
        m.shift(0, 2);
        CHECKS.due("moved outward", m.image(15, 8), 1);
        m.shift(0, -4);
        CHECKS.due("moved inward", m.image(15, 11), 0);
        CHECKS.due("moved inward", m.image(15, 12), 1);
        m.helper(3, 1);
        CHECKS.due("a bar", m.image(15, 6), 1);
    }
}
