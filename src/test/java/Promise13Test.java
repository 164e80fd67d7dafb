/** edge: the error of a piece at a dose. */
final class Promise13Test {
    private static final Checks CHECKS = new Checks();

    public static void main(String[] args) {
        Trial m = new Trial();
        CHECKS.rectangle(m, 10, 10, 20, 20);
        m.kernel(1, 2);
        m.cut(48);
        m.run(1, 10, 1, 1);
        m.cut(48);
        doses(m);
        none(m);
        flat();
        CHECKS.finish();
    }

    /** Outward the image is 10, 5, 0, inward from the edge 15, 20, 25 .., the threshold 10. */
    private static void doses(Trial m) {
        int[][] doseAndError = {
            {1000, 2}, {200, 2}, {199, 1}, {100, 1}, {99, 0}, {67, 0}, {66, -1}, {50, -1}, {49, -2},
            {40, -2}, {39, -8}, {1, -8}
        };
        for (int[] each : doseAndError) {
            for (int piece = 0; piece < 4; piece++) {
                CHECKS.due("edge(" + piece + ", " + each[0] + ")", m.edge(piece, each[0]), each[1]);
            }
        }
        CHECKS.dueErrors("an error is at 100", m, 1, 1, 1, 1);
    }

    private static void none(Trial m) {
        int[] doses = {0, -1, 1001, Integer.MAX_VALUE, Integer.MIN_VALUE};
        for (int dose : doses) {
            CHECKS.due("edge(0, " + dose + ")", m.edge(0, dose), 0);
        }
        int[] pieces = {-1, 4, 120, Integer.MAX_VALUE, Integer.MIN_VALUE};
        for (int piece : pieces) {
            CHECKS.due("edge(" + piece + ", 100)", m.edge(piece, 100), 0);
        }
    }

    private static void flat() {
        Trial m = new Trial();
        CHECKS.closed(m, 4, 4, 20, 4, 20, 20, 12, 20, 12, 4, 28, 4, 28, 30, 4, 30);
        m.kernel(1, 1);
        m.cut(8);
        CHECKS.due("edge(0, 1)", m.edge(0, 1), -8);
        CHECKS.due("edge of a flat one", m.edge(1, 1), 0);
        CHECKS.due("edge of a flat one", m.edge(1, 1000), 0);
    }
}
