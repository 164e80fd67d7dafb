/** worst: the worst errors of the last run, behind each kept round. */
final class Promise10Test {
    private static final Checks CHECKS = new Checks();

    public static void main(String[] args) {
        Trial m = CHECKS.plain(15, 15, 30, 30);
        m.cut(48);
        m.shift(0, 6);
        CHECKS.due("before a run", m.worst(0), -1);
        CHECKS.due("run(20, 1, 1, 4)", m.run(20, 1, 1, 4), 5);
        dueWorsts("beyond the limit", m, 6, 4, 3, 2, 1, 0);
        CHECKS.due("worst(-1)", m.worst(-1), -1);
        CHECKS.due("worst(max)", m.worst(Integer.MAX_VALUE), -1);
        CHECKS.due("worst(min)", m.worst(Integer.MIN_VALUE), -1);

        m.shift(0, -5);
        dueWorsts("a shift is no run", m, 6, 4, 3, 2, 1, 0);
        CHECKS.due("a refused run", m.run(21, 1, 1, 4), -2);
        dueWorsts("a refused run is none", m, 6, 4, 3, 2, 1, 0);
        CHECKS.due("cut(48)", m.cut(48), 4);
        dueWorsts("a cut is no run", m, 6, 4, 3, 2, 1, 0);

        m.shift(2, -4);
        CHECKS.due("run(1, 1, 1, 6)", m.run(1, 1, 1, 6), 1);
        dueWorsts("the sign does not count, and the last run does", m, 4, 3);
        greatestOfDifferentOnes();
        onePieceAlone();
        twentyRounds();
        CHECKS.finish();
    }

    private static void dueWorsts(String when, Trial m, int... worsts) {
        for (int i = 0; i < worsts.length; i++) {
            CHECKS.due(when + ": worst(" + i + ")", m.worst(i), worsts[i]);
        }
        for (int i = worsts.length; i <= 21; i++) {
            CHECKS.due(when + ": worst(" + i + ")", m.worst(i), -1);
        }
    }

    private static void greatestOfDifferentOnes() {
        Trial m = CHECKS.plain(15, 15, 30, 30);
        m.cut(48);
        m.shift(1, 2);
        m.shift(2, -3);
        CHECKS.due("run(20, 1, 1, 6)", m.run(20, 1, 1, 6), 3);
        dueWorsts("2 and -3", m, 3, 2, 1, 0);
    }

    /** All sides but one are at the grid's edge, where nothing prints beyond. */
    private static void onePieceAlone() {
        int[][] rectangles = {{0, 15, 48, 48}, {0, 0, 33, 48}, {0, 0, 48, 33}, {15, 0, 48, 48}};
        for (int side = 0; side < 4; side++) {
            int[] r = rectangles[side];
            Trial m = CHECKS.plain(r[0], r[1], r[2], r[3]);
            m.cut(48);
            m.shift(0, 3);
            m.run(1, 1, 1, 6);
            dueWorsts("side " + side, m, 3, 2);
        }
    }

    /** Rounds that put a row in and out again, without an end of their own. */
    private static void twentyRounds() {
        Trial m = new Trial();
        CHECKS.rectangle(m, 10, 10, 16, 16);
        m.kernel(6, 1);
        m.kernel(-1, 3);
        m.cut(3);
        CHECKS.due("run(20, 1, 1, 6)", m.run(20, 1, 1, 6), 20);
        dueWorsts("twenty", m, 1, 1, 1, 1, 1, 1, 1, 1, 1, 1, 1, 1, 1, 1, 1, 1, 1, 1, 1, 1, 1);
    }
}
