/** moved: the move of a piece, 0 at first and for none. */
final class Promise09Test {
    private static final Checks CHECKS = new Checks();

    public static void main(String[] args) {
        moves();
        none();
        CHECKS.finish();
    }

    private static void moves() {
        CHECKS.sentence("The MOVE of a PIECE");
        Trial m = CHECKS.plain(10, 10, 20, 20);
        m.cut(5);
        CHECKS.dueMoves("behind a cut", m, 0, 0, 0, 0, 0, 0, 0, 0);
        m.shift(1, 2);
        CHECKS.dueMoves("shifted", m, 2, 2, 0, 0, 2, 2, 0, 0);
        m.run(1, 1, 1, 6);
        CHECKS.dueMoves("behind a round", m, 1, 1, 0, 0, 1, 1, 0, 0);
        m.shift(2, -3);
        CHECKS.dueMoves("below 0", m, 1, 1, -3, -3, 1, 1, -3, -3);
        m.cut(5);
        CHECKS.dueMoves("cut anew", m, 0, 0, 0, 0, 0, 0, 0, 0);
    }

    private static void none() {
        CHECKS.sentence("0 for none");
        Trial m = CHECKS.plain(10, 10, 20, 20);
        CHECKS.due("before a cut", m.moved(0), 0);
        m.cut(5);
        m.shift(0, 1);
        CHECKS.due("moved(7)", m.moved(7), 1);
        int[] none = {-1, 8, 119, 120, Integer.MAX_VALUE, Integer.MIN_VALUE};
        for (int number : none) {
            CHECKS.due("moved(" + number + ")", m.moved(number), 0);
        }
        Trial full = CHECKS.plain(0, 0, 30, 30);
        full.cut(1);
        full.shift(0, -1);
        CHECKS.due("moved(119)", full.moved(119), -1);
        CHECKS.due("moved(120)", full.moved(120), 0);
    }
}
