/** shift: more move by a rule, within 6, and how many moves are others. */
final class Promise15Test {
    private static final Checks CHECKS = new Checks();

    public static void main(String[] args) {
        rules();
        rulesOutside();
        soMuchMore();
        soMuchOutside();
        withinSix();
        firstAndLastOfEachSide();
        flatOnes();
        howManyAreOthers();
        noPieces();
        maskFollows();
        CHECKS.finish();
    }

    /** A top side of four pieces, a right one of three, and so on. */
    private static Trial sevenPairs() {
        Trial m = CHECKS.plain(10, 10, 30, 25);
        CHECKS.due("cut(5)", m.cut(5), 14);
        return m;
    }

    private static void rules() {
        CHECKS.sentence("0 all, 1 those of sides along x, 2 along y, 3 the first and last of each side");
        Trial m = sevenPairs();
        CHECKS.due("shift(0, 1)", m.shift(0, 1), 14);
        CHECKS.dueMoves("all", m, 1, 1, 1, 1, 1, 1, 1, 1, 1, 1, 1, 1, 1, 1);
        m = sevenPairs();
        CHECKS.due("shift(1, 2)", m.shift(1, 2), 8);
        CHECKS.dueMoves("along x", m, 2, 2, 2, 2, 0, 0, 0, 2, 2, 2, 2, 0, 0, 0);
        m = sevenPairs();
        CHECKS.due("shift(2, -3)", m.shift(2, -3), 6);
        CHECKS.dueMoves("along y", m, 0, 0, 0, 0, -3, -3, -3, 0, 0, 0, 0, -3, -3, -3);
        m = sevenPairs();
        CHECKS.due("shift(3, 4)", m.shift(3, 4), 8);
        CHECKS.dueMoves("first and last", m, 4, 0, 0, 4, 4, 0, 4, 4, 0, 0, 4, 4, 0, 4);
    }

    private static void dueRefused(int rule, int v) {
        String call = "shift(" + rule + ", " + v + ")";
        CHECKS.due(call + " without pieces", new Trial().shift(rule, v), -2);
        CHECKS.changesNothing(call, sevenPairs(), t -> CHECKS.due(call, t.shift(rule, v), -2));
    }

    private static void rulesOutside() {
        CHECKS.sentence("for PIECES by a rule: 0 .. 1 .. 2 .. 3 .. -2");
        int[] out = {-1, 4, Integer.MAX_VALUE, Integer.MIN_VALUE};
        for (int rule : out) {
            dueRefused(rule, 1);
            dueRefused(rule, 0);
        }
    }

    private static void soMuchMore() {
        CHECKS.sentence("So much more MOVE (-6 .. 6)");
        for (int v = -6; v <= 6; v++) {
            Trial m = sevenPairs();
            CHECKS.due("shift(0, " + v + ")", m.shift(0, v), v == 0 ? 0 : 14);
            CHECKS.dueMoves("shift(0, " + v + ")", m, v, v, v, v, v, v, v, v, v, v, v, v, v, v);
        }
        Trial m = sevenPairs();
        m.shift(0, 2);
        m.shift(1, 3);
        m.shift(2, -4);
        CHECKS.dueMoves("more of what was before", m, 5, 5, 5, 5, -2, -2, -2, 5, 5, 5, 5, -2, -2, -2);
    }

    private static void soMuchOutside() {
        CHECKS.sentence("So much more MOVE (-6 .. 6) .. -2");
        int[] out = {-7, 7, Integer.MAX_VALUE, Integer.MIN_VALUE};
        for (int v : out) {
            dueRefused(0, v);
            dueRefused(3, v);
        }
        dueRefused(-1, -7);
        dueRefused(4, 7);
    }

    private static void withinSix() {
        CHECKS.sentence("within 6 either way");
        for (int before = -6; before <= 6; before++) {
            for (int v = -6; v <= 6; v++) {
                Trial m = CHECKS.plain(10, 10, 30, 30);
                m.cut(48);
                m.shift(0, before);
                int want = Math.max(-6, Math.min(6, before + v));
                String when = "move " + before + ", shift(0, " + v + ")";
                CHECKS.due(when, m.shift(0, v), want == before ? 0 : 4);
                CHECKS.dueMoves(when, m, want, want, want, want);
            }
        }
    }

    private static void firstAndLastOfEachSide() {
        CHECKS.sentence("3 the first and last of each side");
        int[][] lengthAndEnds = {{48, 4}, {20, 4}, {19, 8}, {10, 8}, {9, 8}, {7, 8}, {1, 8}};
        for (int[] each : lengthAndEnds) {
            Trial m = CHECKS.plain(10, 10, 30, 30);
            m.cut(each[0]);
            CHECKS.due("cut(" + each[0] + "), shift(3, -1)", m.shift(3, -1), each[1]);
        }
        Trial two = CHECKS.plain(2, 10, 14, 22);
        CHECKS.rectangle(two, 30, 10, 42, 22);
        two.cut(4);
        CHECKS.due("of two polygons", two.shift(3, 1), 16);
        CHECKS.dueMoves("of two polygons", two, 1, 0, 1, 1, 0, 1, 1, 0, 1, 1, 0, 1, 1, 0, 1, 1, 0, 1, 1, 0, 1, 1, 0, 1);
    }

    /** The second piece of the first side, and the first one of the fifth, are flat. */
    private static void flatOnes() {
        CHECKS.sentence("not FLAT ones");
        int[][] ruleAndOthers = {{0, 18}, {1, 6}, {2, 12}, {3, 13}};
        for (int[] each : ruleAndOthers) {
            Trial m = CHECKS.crossing();
            CHECKS.due("cut(8)", m.cut(8), 20);
            CHECKS.due("shift(" + each[0] + ", -1)", m.shift(each[0], -1), each[1]);
            CHECKS.due("moved(1)", m.moved(1), 0);
            CHECKS.due("moved(7)", m.moved(7), 0);
        }
    }

    private static void howManyAreOthers() {
        CHECKS.sentence("how many MOVES are others");
        Trial m = sevenPairs();
        CHECKS.due("shift(0, 0)", m.shift(0, 0), 0);
        CHECKS.due("shift(0, 4)", m.shift(0, 4), 14);
        CHECKS.due("shift(1, 2)", m.shift(1, 2), 8);
        CHECKS.due("only those below 6", m.shift(0, 5), 6);
        CHECKS.due("none is below 6", m.shift(0, 6), 0);
        CHECKS.due("shift(2, -6)", m.shift(2, -6), 6);
        CHECKS.due("shift(2, -6)", m.shift(2, -6), 6);
        CHECKS.due("only those above -6", m.shift(0, -1), 8);
    }

    private static void noPieces() {
        CHECKS.sentence("-3 there are no PIECES");
        CHECKS.due("a new object", new Trial().shift(0, 0), -3);
        Trial m = CHECKS.plain(10, 10, 20, 20);
        CHECKS.changesNothing("shift before a cut", m, t -> CHECKS.due("shift(3, 6)", t.shift(3, 6), -3));
        m.cut(48);
        CHECKS.dueMoves("behind a cut", m, 0, 0, 0, 0);
        CHECKS.due("behind a cut", m.shift(3, 6), 4);
    }

    private static void maskFollows() {
        CHECKS.sentence("So much more MOVE");
        Trial m = CHECKS.plain(10, 10, 20, 20);
        m.cut(48);
        m.shift(1, 3);
        CHECKS.dueCells("along x outward", m, 1, Checks.box(10, 7, 20, 23));
        m.shift(1, -5);
        CHECKS.dueCells("along x inward", m, 1, Checks.box(10, 12, 20, 18));
        CHECKS.dueCells("what prints", m, 2, Checks.box(10, 12, 20, 18));
        CHECKS.dueCells("the target", m, 0, Checks.box(10, 10, 20, 20));
    }
}
