/** kernel: ranges, numbers, six of them. */
final class Promise04Test {
    private static final Checks CHECKS = new Checks();

    public static void main(String[] args) {
        Trial m = new Trial();
        refusals(m);
        CHECKS.due("kernel(-20, 0)", m.kernel(-20, 0), 0);
        CHECKS.due("kernel(20, 6)", m.kernel(20, 6), 1);
        CHECKS.rectangle(m, 10, 10, 40, 40);
        m.cut(48);
        CHECKS.due("image", m.image(25, 25), 20 * 169 - 20);
        CHECKS.due("kernel(1, 1) with pieces", m.kernel(1, 1), 2);
        CHECKS.due("image of three", m.image(25, 25), 20 * 169 - 20 + 9);
        CHECKS.due("kernel(0, 3)", m.kernel(0, 3), 3);
        CHECKS.due("kernel(1, 1) once more", m.kernel(1, 1), 4);
        CHECKS.due("kernel(2, 0)", m.kernel(2, 0), 5);
        CHECKS.due("a seventh", m.kernel(2, 0), -4);
        refusals(m);
        CHECKS.due("image of six", m.image(25, 25), 20 * 169 - 20 + 9 + 9 + 2);
        CHECKS.finish();
    }

    private static void refusals(Trial m) {
        CHECKS.due("kernel(21, 0)", m.kernel(21, 0), -2);
        CHECKS.due("kernel(-21, 0)", m.kernel(-21, 0), -2);
        CHECKS.due("kernel(1, -1)", m.kernel(1, -1), -2);
        CHECKS.due("kernel(1, 7)", m.kernel(1, 7), -2);
        CHECKS.due("kernel(min, 0)", m.kernel(Integer.MIN_VALUE, 0), -2);
        CHECKS.due("kernel(0, max)", m.kernel(0, Integer.MAX_VALUE), -2);
    }
}
