/** image: weights by the cells of the mask that are not farther than the widths. */
final class Promise06Test {
    private static final Checks CHECKS = new Checks();

    public static void main(String[] args) {
        oneKernel();
        kernelsAddUp();
        gridsEdge();
        maskNotTarget();
        CHECKS.finish();
    }

    private static void oneKernel() {
        Trial m = new Trial();
        CHECKS.rectangle(m, 10, 10, 20, 20);
        CHECKS.due("no kernel", m.image(15, 15), 0);
        m.kernel(3, 2);
        CHECKS.due("all in", m.image(15, 15), 3 * 25);
        CHECKS.due("beside", m.image(9, 15), 3 * 10);
        CHECKS.due("two away", m.image(8, 15), 3 * 5);
        CHECKS.due("three away", m.image(7, 15), 0);
        CHECKS.due("over the corner", m.image(8, 8), 3);
        CHECKS.due("below the corner", m.image(21, 21), 3);
        CHECKS.due("past the corner", m.image(22, 21), 0);
    }

    private static void kernelsAddUp() {
        Trial m = CHECKS.plain(10, 10, 20, 20);
        m.kernel(-2, 1);
        m.kernel(20, 6);
        CHECKS.due("inside", m.image(10, 15), 1 - 2 * 6 + 20 * 7 * 10);
        CHECKS.due("outside", m.image(9, 15), -2 * 3 + 20 * 6 * 10);
    }

    private static void gridsEdge() {
        Trial m = new Trial();
        CHECKS.rectangle(m, 0, 0, 48, 48);
        m.kernel(1, 6);
        CHECKS.due("image(0, 0)", m.image(0, 0), 49);
        CHECKS.due("image(47, 47)", m.image(47, 47), 49);
        CHECKS.due("image(47, 20)", m.image(47, 20), 91);
        CHECKS.due("image(20, 20)", m.image(20, 20), 169);
        int[] none = {-1, 48, Integer.MAX_VALUE, Integer.MIN_VALUE};
        for (int c : none) {
            CHECKS.due("image(" + c + ", 5)", m.image(c, 5), 0);
            CHECKS.due("image(5, " + c + ")", m.image(5, c), 0);
        }
    }

    private static void maskNotTarget() {
        Trial m = CHECKS.plain(10, 10, 20, 20);
        m.cut(48);
        CHECKS.due("target alone", m.image(15, 8), 0);
        m.shift(0, 2);
        CHECKS.due("moved outward", m.image(15, 8), 1);
        m.shift(0, -4);
        CHECKS.due("moved inward", m.image(15, 11), 0);
        CHECKS.due("moved inward", m.image(15, 12), 1);
        m.helper(3, 1);
        CHECKS.due("a bar", m.image(15, 6), 1);
    }
}
