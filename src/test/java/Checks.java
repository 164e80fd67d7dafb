/** Counts the answers of one test that are not as due, and makes masks that many tests need. */
final class Checks {
    private int wrong;

    void due(String call, long got, long want) {
        if (got != want) {
            wrong++;
            System.out.println(call + " answered " + got + ", due is " + want);
        }
    }

    void due(String call, boolean got, boolean want) {
        if (got != want) {
            wrong++;
            System.out.println(call + " answered " + got + ", due is " + want);
        }
    }

    void finish() {
        if (wrong != 0) {
            System.out.println(wrong + " answers are not as due");
            System.exit(1);
        }
    }

    /** Tells the corners (x, y), x and y in turn, and whether each of them was taken. */
    boolean corners(MaskEdges m, int polygon, int... xy) {
        boolean all = true;
        for (int i = 0; i + 1 < xy.length; i += 2) {
            all &= m.corner(polygon, xy[i], xy[i + 1]);
        }
        return all;
    }

    /** A closed polygon more, of the corners told: the first side is the first two of them. */
    int closed(MaskEdges m, int... xy) {
        int polygon = m.polygon();
        due("polygon() >= 0", polygon >= 0, true);
        due("corners", corners(m, polygon, xy), true);
        due("closing corner", m.corner(polygon, xy[0], xy[1]), true);
        return polygon;
    }

    /** A closed rectangle more; its sides: top, right, bottom, left. */
    int rectangle(MaskEdges m, int left, int top, int right, int bottom) {
        return closed(m, left, top, right, top, right, bottom, left, bottom);
    }

    /** One rectangle with a KERNEL that shows the mask as it is: weight 1, width 0. */
    MaskEdges plain(int left, int top, int right, int bottom) {
        MaskEdges m = new MaskEdges();
        rectangle(m, left, top, right, bottom);
        due("kernel(1, 0)", m.kernel(1, 0), 0);
        return m;
    }

    void dueMoves(String when, MaskEdges m, int... moves) {
        for (int i = 0; i < moves.length; i++) {
            due(when + ": moved(" + i + ")", m.moved(i), moves[i]);
        }
    }

    void dueErrors(String when, MaskEdges m, int... errors) {
        for (int i = 0; i < errors.length; i++) {
            due(when + ": error(" + i + ")", m.error(i), errors[i]);
        }
    }

    /** The CELLS for which is(x, y, what) holds must be those of the rectangle. */
    void dueRectangle(String when, MaskEdges m, int what, int[] leftTopRightBottom) {
        for (int y = -1; y <= 48; y++) {
            for (int x = -1; x <= 48; x++) {
                boolean in = x >= leftTopRightBottom[0] && y >= leftTopRightBottom[1]
                    && x < leftTopRightBottom[2] && y < leftTopRightBottom[3];
                due(when + ": is(" + x + ", " + y + ", " + what + ")", m.is(x, y, what), in);
            }
        }
    }
}
