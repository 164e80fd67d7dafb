/** alike: the same outward, and the same cells of the target around. */
final class Promise14Test {
    private static final Checks CHECKS = new Checks();

    public static void main(String[] args) {
        reach();
        outward();
        acrossPolygons();
        beyondTheGrid();
        targetNotMask();
        flatOrNone();
        CHECKS.finish();
    }

    /** Middles 4 cells and 3 cells behind the side's ends. */
    private static void reach() {
        Trial far = CHECKS.plain(10, 10, 40, 40);
        far.cut(10);
        CHECKS.due("4 cells to the end", far.alike(0, 1), true);
        CHECKS.due("4 cells to the end", far.alike(2, 0), true);

        Trial near = CHECKS.plain(10, 10, 42, 42);
        near.cut(8);
        CHECKS.due("3 cells to the end", near.alike(0, 1), false);
        CHECKS.due("3 cells to the end", near.alike(1, 0), false);
        CHECKS.due("4 cells to the other end", near.alike(1, 3), true);
        CHECKS.due("a piece with itself", near.alike(0, 0), true);

        Trial odd = CHECKS.plain(10, 10, 38, 38);
        odd.cut(7);
        for (int side = 0; side < 4; side++) {
            int piece = 4 * side;
            CHECKS.due("3 cells to one end, side " + side, odd.alike(piece, piece + 1), false);
            CHECKS.due("in the middle, side " + side, odd.alike(piece + 1, piece + 2), true);
            CHECKS.due("3 cells to the other end, side " + side, odd.alike(piece + 2, piece + 3), false);
        }

        Trial deep = CHECKS.plain(5, 10, 20, 15);
        CHECKS.rectangle(deep, 25, 10, 40, 14);
        CHECKS.rectangle(deep, 5, 30, 20, 36);
        deep.cut(48);
        CHECKS.due("5 and 4 deep", deep.alike(0, 4), false);
        CHECKS.due("5 and 6 deep", deep.alike(0, 8), true);
    }

    /** A square is the same all round but for the way outward. */
    private static void outward() {
        Trial m = CHECKS.plain(10, 10, 40, 40);
        m.cut(10);
        for (int a = 0; a < 12; a++) {
            for (int b = 0; b < 12; b++) {
                CHECKS.due("alike(" + a + ", " + b + ")", m.alike(a, b), a / 3 == b / 3);
            }
        }
        Trial thin = CHECKS.plain(10, 10, 40, 11);
        thin.cut(10);
        CHECKS.due("the same cell from both hands", thin.alike(0, 6), false);
    }

    private static void acrossPolygons() {
        Trial m = CHECKS.plain(5, 5, 12, 12);
        CHECKS.rectangle(m, 30, 30, 37, 37);
        CHECKS.rectangle(m, 30, 10, 37, 18);
        m.cut(48);
        for (int side = 0; side < 4; side++) {
            CHECKS.due("the same square, side " + side, m.alike(side, 4 + side), true);
        }
        CHECKS.due("a longer one, top", m.alike(0, 8), true);
        CHECKS.due("a longer one, right", m.alike(1, 9), false);
    }

    private static void beyondTheGrid() {
        Trial m = CHECKS.plain(0, 0, 12, 12);
        CHECKS.rectangle(m, 20, 20, 32, 32);
        m.cut(4);
        for (int piece = 0; piece < 12; piece++) {
            CHECKS.due("in the grid's corner, " + piece, m.alike(piece, 12 + piece), true);
        }
    }

    private static void targetNotMask() {
        Trial m = CHECKS.plain(10, 10, 40, 40);
        m.cut(10);
        m.shift(3, 4);
        m.shift(0, -2);
        m.helper(1, 1);
        CHECKS.due("other moves", m.moved(0) == m.moved(1), false);
        CHECKS.due("alike by the target", m.alike(0, 1), true);
    }

    private static void flatOrNone() {
        Trial m = CHECKS.plain(10, 10, 40, 40);
        m.cut(48);
        int[] none = {-1, 4, 120, Integer.MAX_VALUE, Integer.MIN_VALUE};
        for (int number : none) {
            CHECKS.due("alike(0, " + number + ")", m.alike(0, number), false);
            CHECKS.due("alike(" + number + ", 0)", m.alike(number, 0), false);
            CHECKS.due("alike(" + number + ", itself)", m.alike(number, number), false);
        }
        Trial flat = new Trial();
        CHECKS.closed(flat, 4, 4, 20, 4, 20, 20, 12, 20, 12, 4, 28, 4, 28, 30, 4, 30);
        flat.cut(8);
        CHECKS.due("flat with itself", flat.alike(1, 1), false);
        CHECKS.due("flat with flat", flat.alike(1, 7), false);
        CHECKS.due("flat with another", flat.alike(0, 1), false);
    }
}
