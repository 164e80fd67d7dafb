/** alike: the same outward, and the same cells of the target around. */
final class Promise14Test {
    private static final Checks CHECKS = new Checks();

    public static void main(String[] args) {
        upToFourAway();
        besideTheCellInside();
        sameOutward();
        acrossPolygons();
        beyondTheGrid();
        notAcrossTheGridsEdge();
        byTheTargetAlone();
        flatOnes();
        noneIsThere();
        CHECKS.finish();
    }

    /** Two polygons of one CELL, and a third one of one CELL somewhere around the first. */
    private static void upToFourAway() {
        CHECKS.sentence("beside their CELLS inside, up to 4 away in x and y, the same CELLS are in THE TARGET");
        for (int dy = -6; dy <= 6; dy++) {
            for (int dx = -6; dx <= 6; dx++) {
                if (dx == 0 && dy == 0) {
                    continue;
                }
                Trial m = CHECKS.plain(10, 14, 11, 15);
                CHECKS.rectangle(m, 34, 30, 35, 31);
                CHECKS.rectangle(m, 10 + dx, 14 + dy, 11 + dx, 15 + dy);
                m.cut(48);
                boolean far = Math.abs(dx) > 4 || Math.abs(dy) > 4;
                for (int piece = 0; piece < 4; piece++) {
                    String when = "a cell at " + dx + ", " + dy + ", piece " + piece;
                    CHECKS.due(when, m.alike(piece, 4 + piece), far);
                    CHECKS.due(when, m.alike(4 + piece, piece), far);
                }
            }
        }
    }

    /** The CELLS inside are beside the middles: 4 cells, or 3, behind the ends of the sides. */
    private static void besideTheCellInside() {
        CHECKS.sentence("beside their CELLS inside, up to 4 away");
        Trial far = CHECKS.plain(10, 10, 40, 40);
        far.cut(10);
        CHECKS.due("4 cells to the end", far.alike(0, 1), true);
        CHECKS.due("4 cells to the end", far.alike(2, 0), true);

        Trial near = CHECKS.plain(10, 10, 42, 42);
        near.cut(8);
        CHECKS.due("3 cells to the end", near.alike(0, 1), false);
        CHECKS.due("3 cells to the end", near.alike(1, 0), false);
        CHECKS.due("4 cells to the other end", near.alike(1, 3), true);
        CHECKS.due("a piece with itself", near.alike(0, 0), true);

        Trial odd = CHECKS.plain(10, 10, 38, 38);
        odd.cut(7);
        for (int side = 0; side < 4; side++) {
            int piece = 4 * side;
            CHECKS.due("3 cells to one end, side " + side, odd.alike(piece, piece + 1), false);
            CHECKS.due("in the middle, side " + side, odd.alike(piece + 1, piece + 2), true);
            CHECKS.due("3 cells to the other end, side " + side, odd.alike(piece + 2, piece + 3), false);
        }

        Trial deep = CHECKS.plain(5, 10, 20, 15);
        CHECKS.rectangle(deep, 25, 10, 40, 14);
        CHECKS.rectangle(deep, 5, 30, 20, 36);
        deep.cut(48);
        CHECKS.due("5 and 4 deep", deep.alike(0, 4), false);
        CHECKS.due("5 and 6 deep", deep.alike(0, 8), true);
    }

    /** A square is the same all round but for the way outward. */
    private static void sameOutward() {
        CHECKS.sentence("have the same OUTWARD");
        Trial m = CHECKS.plain(10, 10, 40, 40);
        m.cut(10);
        for (int a = 0; a < 12; a++) {
            for (int b = 0; b < 12; b++) {
                CHECKS.due("alike(" + a + ", " + b + ")", m.alike(a, b), a / 3 == b / 3);
            }
        }
        Trial cell = CHECKS.plain(20, 20, 21, 21);
        cell.cut(48);
        for (int a = 0; a < 4; a++) {
            for (int b = 0; b < 4; b++) {
                CHECKS.due("the same cell inside, alike(" + a + ", " + b + ")", cell.alike(a, b), a == b);
            }
        }
    }

    /** Also where they were told the other way round: outward is the same then. */
    private static void acrossPolygons() {
        CHECKS.sentence("Whether two PIECES");
        Trial m = CHECKS.plain(5, 5, 12, 12);
        CHECKS.rectangle(m, 30, 30, 37, 37);
        CHECKS.rectangle(m, 30, 10, 37, 18);
        CHECKS.closed(m, 5, 30, 5, 37, 12, 37, 12, 30);
        m.cut(48);
        for (int side = 0; side < 4; side++) {
            CHECKS.due("the same square, side " + side, m.alike(side, 4 + side), true);
            CHECKS.due("the other way round, side " + side, m.alike(side, 15 - side), true);
        }
        CHECKS.due("a longer one, top", m.alike(0, 8), true);
        CHECKS.due("a longer one, right", m.alike(1, 9), false);
    }

    private static void beyondTheGrid() {
        CHECKS.sentence("(those beyond the grid are not)");
        int[][] corners = {{0, 0}, {36, 0}, {0, 36}, {36, 36}};
        for (int[] c : corners) {
            Trial m = CHECKS.plain(c[0], c[1], c[0] + 12, c[1] + 12);
            CHECKS.rectangle(m, 18, 18, 30, 30);
            m.cut(4);
            for (int piece = 0; piece < 12; piece++) {
                CHECKS.due("in the grid's corner, " + piece, m.alike(piece, 12 + piece), true);
            }
        }
    }

    /** One CELL near the edge, and one that has another beside it where the first one has the outside. */
    private static void notAcrossTheGridsEdge() {
        CHECKS.sentence("(those beyond the grid are not)");
        int[][] cellAndBeside = {{2, 24, -3, 0}, {45, 24, 3, 0}, {24, 2, 0, -3}, {24, 45, 0, 3}};
        for (int[] c : cellAndBeside) {
            Trial m = CHECKS.plain(c[0], c[1], c[0] + 1, c[1] + 1);
            CHECKS.rectangle(m, 20, 20, 21, 21);
            CHECKS.rectangle(m, 20 + c[2], 20 + c[3], 21 + c[2], 21 + c[3]);
            m.cut(48);
            for (int piece = 0; piece < 4; piece++) {
                CHECKS.due("a cell at " + c[0] + ", " + c[1] + ", piece " + piece, m.alike(piece, 4 + piece), false);
            }
        }
        Trial row = CHECKS.plain(0, 10, 1, 11);
        CHECKS.rectangle(row, 20, 30, 21, 31);
        CHECKS.rectangle(row, 47, 9, 48, 10);
        row.cut(48);
        CHECKS.due("the end of the row before is not beside", row.alike(0, 4), true);
    }

    private static void byTheTargetAlone() {
        CHECKS.sentence("the same CELLS are in THE TARGET");
        Trial m = CHECKS.plain(10, 10, 40, 40);
        m.cut(10);
        m.shift(3, 4);
        m.shift(0, -2);
        m.helper(1, 1);
        CHECKS.due("other moves", m.moved(0) == m.moved(1), false);
        CHECKS.due("alike by the target", m.alike(0, 1), true);
    }

    private static void flatOnes() {
        CHECKS.sentence("two PIECES that are not FLAT");
        Trial m = CHECKS.crossing();
        m.cut(8);
        CHECKS.due("flat with itself", m.alike(1, 1), false);
        CHECKS.due("flat with flat", m.alike(1, 7), false);
        CHECKS.due("flat with another", m.alike(0, 1), false);
        CHECKS.due("another with flat", m.alike(1, 0), false);
        CHECKS.due("another with itself", m.alike(0, 0), true);
    }

    private static void noneIsThere() {
        CHECKS.sentence("false for none");
        Trial m = CHECKS.plain(10, 10, 40, 40);
        CHECKS.due("before a cut", m.alike(0, 0), false);
        m.cut(48);
        CHECKS.due("alike(0, 0)", m.alike(0, 0), true);
        CHECKS.due("alike(3, 3)", m.alike(3, 3), true);
        int[] none = {-1, 4, 119, 120, Integer.MAX_VALUE, Integer.MIN_VALUE};
        for (int number : none) {
            CHECKS.due("alike(0, " + number + ")", m.alike(0, number), false);
            CHECKS.due("alike(" + number + ", 0)", m.alike(number, 0), false);
            CHECKS.due("alike(" + number + ", itself)", m.alike(number, number), false);
        }
    }
}
