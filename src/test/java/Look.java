import java.util.ArrayList;
import java.util.List;

/** All that an object answers, now and behind a few calls more: a line for each answer. */
final class Look {
    private static final int CELLS = 48;
    private static final int PIECES = 120;
    private static final int BARS = 24;
    private static final int ROUNDS = 20;
    private static final int[] DOSES = {1, 60, 100, 150, 1000};

    private final List<String> lines = new ArrayList<>();

    private Look() {
    }

    static List<String> at(Trial trial) {
        Look look = new Look();
        look.askAll(trial.again());
        look.goOn(trial.again());
        return look.lines;
    }

    private void line(String call, Object answer) {
        lines.add(call + " " + answer);
    }

    private void askAll(Trial m) {
        askCells(m);
        askPieces(m);
        for (int bar = 0; bar <= BARS; bar++) {
            for (int dose : DOSES) {
                line("prints(" + bar + ", " + dose + ")", m.prints(bar, dose));
            }
        }
        for (int round = 0; round <= ROUNDS + 1; round++) {
            line("worst(" + round + ")", m.worst(round));
        }
    }

    /** The image follows from the mask and the kernels: some of its cells will do. */
    private void askCells(Trial m) {
        for (int y = 0; y < CELLS; y++) {
            for (int x = 0; x < CELLS; x++) {
                String cell = "(" + x + ", " + y + ")";
                line("target" + cell, m.is(x, y, 0));
                line("mask" + cell, m.is(x, y, 1));
                if (x % 3 == 0 && y % 3 == 0) {
                    line("prints" + cell, m.is(x, y, 2));
                    line("image" + cell, m.image(x, y));
                }
            }
        }
    }

    private void askPieces(Trial m) {
        for (int piece = 0; piece <= PIECES; piece++) {
            line("moved(" + piece + ")", m.moved(piece));
            line("error(" + piece + ")", m.error(piece));
            line("edge(" + piece + ", 150)", m.edge(piece, 150));
            line("alike(0, " + piece + ")", m.alike(0, piece));
        }
    }

    /** What can't be asked is seen by what the next calls do: counts, the pieces' ends, the rules. */
    private void goOn(Trial m) {
        line("then polygon()", m.polygon());
        line("then kernel(3, 1)", m.kernel(3, 1));
        line("then shift(3, 1)", m.shift(3, 1));
        line("then helper(2, 1)", m.helper(2, 1));
        askAll(m);
        line("then run(3, 5, 1, 4)", m.run(3, 5, 1, 4));
        line("then cut(7)", m.cut(7));
        askAll(m);
    }
}
