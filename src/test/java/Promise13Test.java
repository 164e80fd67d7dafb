/** edge: the error of a piece at a dose. */
final class Promise13Test {
    private static final Checks CHECKS = new Checks();

    public static void main(String[] args) {
        atADose();
        leastAndGreatestDose();
        dosesOutside();
        noneIsThere();
        flatOnes();
        CHECKS.finish();
    }

    /** Outward of each side the image is 10, 5, 0, inward from it 15, 20, 25 .., the threshold 10. */
    private static Trial tenAtTheEdge() {
        Trial m = new Trial();
        CHECKS.rectangle(m, 10, 10, 20, 20);
        m.kernel(1, 2);
        m.cut(48);
        m.run(1, 10, 1, 1);
        m.cut(48);
        return m;
    }

    private static void atADose() {
        CHECKS.sentence("THE ERROR of a PIECE at a dose");
        Trial m = tenAtTheEdge();
        int[][] doseAndError = {
            {1000, 2}, {200, 2}, {199, 1}, {100, 1}, {99, 0}, {67, 0}, {66, -1}, {50, -1}, {49, -2},
            {40, -2}, {39, -8}, {1, -8}
        };
        for (int[] each : doseAndError) {
            for (int piece = 0; piece < 4; piece++) {
                CHECKS.due("edge(" + piece + ", " + each[0] + ")", m.edge(piece, each[0]), each[1]);
            }
        }
        CHECKS.dueErrors("an error is at 100", m, 1, 1, 1, 1);
    }

    /** An image of 100 prints at a dose of 1, one of 1 does at 1000 with a threshold of 10. */
    private static void leastAndGreatestDose() {
        CHECKS.sentence("at a dose (1 .. 1000)");
        Trial bright = new Trial();
        CHECKS.rectangle(bright, 10, 10, 20, 20);
        for (int i = 0; i < 5; i++) {
            bright.kernel(20, 0);
        }
        bright.cut(48);
        CHECKS.due("image 100, edge(0, 1)", bright.edge(0, 1), 0);
        Trial less = new Trial();
        CHECKS.rectangle(less, 10, 10, 20, 20);
        for (int i = 0; i < 5; i++) {
            less.kernel(i == 0 ? 19 : 20, 0);
        }
        less.cut(48);
        CHECKS.due("image 99, edge(0, 1)", less.edge(0, 1), -8);
        CHECKS.due("image 99, edge(0, 2)", less.edge(0, 2), 0);
        Trial dim = CHECKS.plain(10, 10, 20, 20);
        dim.cut(48);
        dim.run(1, 10, 1, 1);
        dim.cut(48);
        CHECKS.due("image 1, threshold 10, edge(0, 1000)", dim.edge(0, 1000), 0);
        CHECKS.due("image 1, threshold 10, edge(0, 999)", dim.edge(0, 999), -8);
    }

    private static void dosesOutside() {
        CHECKS.sentence("at a dose (1 .. 1000); 0 for none");
        Trial m = tenAtTheEdge();
        CHECKS.due("edge(0, 1)", m.edge(0, 1), -8);
        CHECKS.due("edge(0, 1000)", m.edge(0, 1000), 2);
        int[] doses = {0, -1, -100, 1001, Integer.MAX_VALUE, Integer.MIN_VALUE};
        for (int dose : doses) {
            CHECKS.due("edge(0, " + dose + ")", m.edge(0, dose), 0);
        }
    }

    private static void noneIsThere() {
        CHECKS.sentence("0 for none");
        Trial m = tenAtTheEdge();
        CHECKS.due("edge(3, 100)", m.edge(3, 100), 1);
        int[] pieces = {-1, 4, 119, 120, Integer.MAX_VALUE, Integer.MIN_VALUE};
        for (int piece : pieces) {
            CHECKS.due("edge(" + piece + ", 100)", m.edge(piece, 100), 0);
            CHECKS.due("edge(" + piece + ", 1)", m.edge(piece, 1), 0);
        }
        Trial uncut = CHECKS.plain(10, 10, 20, 20);
        CHECKS.due("before a cut", uncut.edge(0, 1), 0);
    }

    private static void flatOnes() {
        CHECKS.sentence("THE ERROR of a PIECE (0 for FLAT ones)");
        Trial m = CHECKS.crossing();
        m.kernel(1, 1);
        m.cut(8);
        int[] flat = {1, 7};
        for (int piece : flat) {
            CHECKS.due("edge(" + piece + ", 1)", m.edge(piece, 1), 0);
            CHECKS.due("edge(" + piece + ", 1000)", m.edge(piece, 1000), 0);
        }
        CHECKS.due("edge(0, 1)", m.edge(0, 1), -8);
    }
}
