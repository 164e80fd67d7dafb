/** A new object has no polygons, kernels, helpers or pieces, and a threshold of 1. */
final class Promise01Test {
    private static final Checks CHECKS = new Checks();

    public static void main(String[] args) {
        CHECKS.sentence("No POLYGONS, KERNELS, HELPERS");
        nothingIsThere(new Trial());
        allRoomIsThere();
        objectsShareNothing();
        CHECKS.finish();
    }

    private static void nothingIsThere(Trial m) {
        for (int what = 0; what <= 2; what++) {
            CHECKS.dueCells("new", m, what);
        }
        CHECKS.due("image(5, 5)", m.image(5, 5), 0);
        CHECKS.due("error(0)", m.error(0), 0);
        CHECKS.due("edge(0, 100)", m.edge(0, 100), 0);
        CHECKS.due("moved(0)", m.moved(0), 0);
        CHECKS.due("worst(0)", m.worst(0), -1);
        CHECKS.due("prints(0, 100)", m.prints(0, 100), false);
        CHECKS.due("alike(0, 0)", m.alike(0, 0), false);
        CHECKS.due("cut(5)", m.cut(5), -3);
        CHECKS.due("run(1, 1, 1, 1)", m.run(1, 1, 1, 1), -3);
        CHECKS.due("helper(1, 1)", m.helper(1, 1), -3);
        CHECKS.due("shift(0, 1)", m.shift(0, 1), -3);
        CHECKS.due("corner(0, 1, 1)", m.corner(0, 1, 1), false);
        CHECKS.due("polygon()", m.polygon(), 0);
        CHECKS.due("kernel(1, 1)", m.kernel(1, 1), 0);
    }

    private static void allRoomIsThere() {
        Trial m = new Trial();
        for (int i = 0; i < 4; i++) {
            CHECKS.due("polygon()", m.polygon(), i);
        }
        for (int i = 0; i < 6; i++) {
            CHECKS.due("kernel(1, 1)", m.kernel(1, 1), i);
        }
    }

    private static void objectsShareNothing() {
        Trial used = CHECKS.plain(10, 10, 20, 20);
        used.cut(5);
        used.helper(1, 1);
        used.shift(0, 3);
        used.run(1, 7, 1, 6);
        nothingIsThere(new Trial());
    }
}
