import java.util.List;
import java.util.function.Consumer;

/** Counts the answers of one test that are not as due, and makes masks that many tests need. */
final class Checks {
    private int wrong;
    private String words = "";

    /** The words of the document that the next answers are due by. */
    void sentence(String quoted) {
        words = quoted;
    }

    void due(String call, long got, long want) {
        if (got != want) {
            tell(call + " answered " + got + ", due is " + want);
        }
    }

    void due(String call, boolean got, boolean want) {
        if (got != want) {
            tell(call + " answered " + got + ", due is " + want);
        }
    }

    private void tell(String what) {
        wrong++;
        System.out.println("\"" + words + "\": " + what);
    }

    void finish() {
        if (wrong != 0) {
            System.out.println(wrong + " answers are not as due");
            System.exit(1);
        }
    }

    /** Tells the corners (x, y), x and y in turn, and whether each of them was taken. */
    boolean corners(Trial m, int polygon, int... xy) {
        boolean all = true;
        for (int i = 0; i + 1 < xy.length; i += 2) {
            all &= m.corner(polygon, xy[i], xy[i + 1]);
        }
        return all;
    }

    /** A closed polygon more, of the corners told: the first side is the first two of them. */
    int closed(Trial m, int... xy) {
        int polygon = m.polygon();
        due("polygon() >= 0", polygon >= 0, true);
        due("corners", corners(m, polygon, xy), true);
        due("closing corner", m.corner(polygon, xy[0], xy[1]), true);
        return polygon;
    }

    /** A closed rectangle more; its sides: top, right, bottom, left. */
    int rectangle(Trial m, int left, int top, int right, int bottom) {
        return closed(m, left, top, right, top, right, bottom, left, bottom);
    }

    /** One rectangle with a KERNEL that shows the mask as it is: weight 1, width 0. */
    Trial plain(int left, int top, int right, int bottom) {
        Trial m = new Trial();
        rectangle(m, left, top, right, bottom);
        due("kernel(1, 0)", m.kernel(1, 0), 0);
        return m;
    }

    /**
     * A polygon that crosses itself. Cut by 8 it has 20 pieces, of which 1 (along the first side)
     * and 7 (along the fifth) are flat: there it is on no hand.
     */
    Trial crossing() {
        Trial m = new Trial();
        closed(m, 4, 4, 20, 4, 20, 20, 12, 20, 12, 4, 28, 4, 28, 30, 4, 30);
        return m;
    }

    void dueMoves(String when, Trial m, int... moves) {
        for (int i = 0; i < moves.length; i++) {
            due(when + ": moved(" + i + ")", m.moved(i), moves[i]);
        }
    }

    void dueErrors(String when, Trial m, int... errors) {
        for (int i = 0; i < errors.length; i++) {
            due(when + ": error(" + i + ")", m.error(i), errors[i]);
        }
    }

    /** The CELLS for which is(x, y, what) holds must be those of the rectangles, and no others. */
    void dueCells(String when, Trial m, int what, int[]... rectangles) {
        for (int y = -1; y <= 48; y++) {
            for (int x = -1; x <= 48; x++) {
                boolean in = false;
                for (int[] r : rectangles) {
                    in |= x >= r[0] && y >= r[1] && x < r[2] && y < r[3];
                }
                due(when + ": is(" + x + ", " + y + ", " + what + ")", m.is(x, y, what), in);
            }
        }
    }

    /** Left, top, right and bottom of a rectangle of CELLS. */
    static int[] box(int left, int top, int right, int bottom) {
        return new int[] {left, top, right, bottom};
    }

    /** The calls that are told must be refused as they should be, and then nothing be another. */
    void changesNothing(String what, Trial m, Consumer<Trial> calls) {
        Trial before = m.again();
        calls.accept(m);
        dueSame(what + " changes nothing", before, m);
    }

    void dueSame(String what, Trial one, Trial other) {
        List<String> want = Look.at(one);
        List<String> got = Look.at(other);
        for (int i = 0; i < want.size(); i++) {
            if (!want.get(i).equals(got.get(i))) {
                tell(what + ": " + got.get(i) + ", due is " + want.get(i));
                return;
            }
        }
    }
}
