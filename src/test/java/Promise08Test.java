/** run: rounds that are kept, those that end it, step, limit and threshold. */
final class Promise08Test {
    private static final Checks CHECKS = new Checks();

    public static void main(String[] args) {
        refusals();
        stepsAgainstTheError();
        asManyRoundsAsTold();
        limits();
        limitAlsoWithoutError();
        endsWithoutChange();
        endsWhenWorse();
        thresholdStays();
        flatOnesStay();
        CHECKS.finish();
    }

    /** The mask prints as it is, so a MOVE of v is an error of v. */
    private static Trial movedBy(int v) {
        Trial m = CHECKS.plain(15, 15, 30, 30);
        m.cut(48);
        m.shift(0, v);
        return m;
    }

    private static void refusals() {
        int[][] wrong = {
            {0, 1, 1, 1}, {21, 1, 1, 1}, {1, 0, 1, 1}, {1, 100_001, 1, 1}, {1, 1, 0, 1}, {1, 1, 5, 1},
            {1, 1, 1, 0}, {1, 1, 1, 7}, {-1, -1, -1, -1}, {Integer.MAX_VALUE, 1, 1, 1}
        };
        Trial none = new Trial();
        Trial m = movedBy(3);
        for (int[] w : wrong) {
            String call = "run(" + w[0] + ", " + w[1] + ", " + w[2] + ", " + w[3] + ")";
            CHECKS.due(call + " without pieces", none.run(w[0], w[1], w[2], w[3]), -2);
            CHECKS.due(call, m.run(w[0], w[1], w[2], w[3]), -2);
        }
        CHECKS.due("run(1, 1, 1, 1) without pieces", none.run(1, 1, 1, 1), -3);
        CHECKS.dueMoves("behind refused runs", m, 3, 3, 3, 3);
        CHECKS.due("no worst error of a refused run", m.worst(0), -1);
        CHECKS.due("the greatest of all", m.run(20, 100_000, 4, 6), 1);

        Trial first = CHECKS.plain(15, 15, 30, 30);
        CHECKS.rectangle(first, 0, 0, 5, 5);
        CHECKS.due("closed, but not cut", first.run(20, 1, 1, 1), -3);
        first.cut(48);
        first.run(1, 1, 1, 0);
        first.run(1, 100_000, 5, 1);
        CHECKS.due("a refused run leaves the threshold", first.is(20, 20, 2), true);
    }

    private static void stepsAgainstTheError() {
        int[][] moveStepKept = {
            {3, 1, 3}, {3, 2, 2}, {3, 3, 1}, {3, 4, 1}, {-3, 1, 3}, {-3, 2, 2}, {-4, 4, 1}, {6, 4, 2}
        };
        for (int[] each : moveStepKept) {
            Trial m = movedBy(each[0]);
            String when = "move " + each[0] + ", step " + each[1];
            CHECKS.due(when, m.run(20, 1, each[1], 6), each[2]);
            CHECKS.dueMoves(when, m, 0, 0, 0, 0);
            CHECKS.dueErrors(when, m, 0, 0, 0, 0);
            CHECKS.dueCells(when, m, 1, Checks.box(15, 15, 30, 30));
        }
    }

    private static void asManyRoundsAsTold() {
        Trial m = movedBy(5);
        CHECKS.due("run(2, 1, 1, 6)", m.run(2, 1, 1, 6), 2);
        CHECKS.dueMoves("two rounds", m, 3, 3, 3, 3);
        CHECKS.due("the mask is renewed", m.is(20, 11, 1), false);
        CHECKS.due("the mask is renewed", m.is(20, 12, 1), true);
        CHECKS.due("run(1, 1, 1, 6)", m.run(1, 1, 1, 6), 1);
        CHECKS.dueMoves("one round more", m, 2, 2, 2, 2);
    }

    private static void limits() {
        Trial m = movedBy(6);
        CHECKS.due("beyond the limit before", m.run(1, 1, 1, 2), 1);
        CHECKS.dueMoves("beyond the limit before", m, 2, 2, 2, 2);

        Trial below = movedBy(-6);
        CHECKS.due("beyond it below 0", below.run(1, 1, 1, 2), 1);
        CHECKS.dueMoves("beyond it below 0", below, -2, -2, -2, -2);

        Trial dark = new Trial();
        CHECKS.rectangle(dark, 15, 15, 30, 30);
        dark.cut(48);
        CHECKS.due("up to the limit", dark.run(20, 1, 2, 3), 2);
        CHECKS.dueMoves("up to the limit", dark, 3, 3, 3, 3);
        CHECKS.due("at the limit", dark.run(20, 1, 2, 3), 0);
        CHECKS.due("farther", dark.run(20, 1, 1, 6), 3);
    }

    /** The top and left pieces move beyond the grid, where nothing prints: no error, but a limit. */
    private static void limitAlsoWithoutError() {
        Trial m = CHECKS.plain(0, 0, 15, 15);
        m.cut(48);
        m.shift(0, 5);
        CHECKS.dueErrors("at the grid's edge", m, 0, 5, 5, 0);
        CHECKS.due("run(1, 1, 1, 2)", m.run(1, 1, 1, 2), 1);
        CHECKS.dueMoves("within the limit", m, 2, 2, 2, 2);
    }

    private static void endsWithoutChange() {
        Trial m = movedBy(0);
        CHECKS.due("no error", m.run(20, 1, 1, 1), 0);
        CHECKS.due("no error", m.worst(0), 0);

        Trial beyond = CHECKS.plain(0, 0, 48, 48);
        beyond.cut(48);
        beyond.shift(0, 5);
        CHECKS.due("no error, though beyond the limit", beyond.run(20, 1, 1, 1), 0);
        CHECKS.dueMoves("no error, though beyond the limit", beyond, 5, 5, 5, 5);
    }

    /** Against an error of 1 the one row of the mask goes, and nothing prints any more. */
    private static void endsWhenWorse() {
        Trial m = new Trial();
        CHECKS.rectangle(m, 10, 10, 20, 11);
        m.kernel(1, 1);
        m.cut(48);
        CHECKS.dueErrors("before", m, 1, 1, 1, 1);
        CHECKS.due("run(20, 1, 1, 6)", m.run(20, 1, 1, 6), 0);
        CHECKS.dueMoves("as before", m, 0, 0, 0, 0);
        CHECKS.dueErrors("as before", m, 1, 1, 1, 1);
        CHECKS.dueCells("as before", m, 1, Checks.box(10, 10, 20, 11));
        CHECKS.due("worst(0)", m.worst(0), 1);
        CHECKS.due("worst(1)", m.worst(1), -1);
        m.shift(2, -1);
        CHECKS.due("with moves before", m.run(20, 1, 1, 6), 0);
        CHECKS.dueMoves("with moves before", m, 0, -1, 0, -1);
        CHECKS.dueCells("with moves before", m, 1, Checks.box(11, 10, 19, 11));
    }

    private static void thresholdStays() {
        Trial m = new Trial();
        CHECKS.rectangle(m, 10, 10, 20, 20);
        m.kernel(5, 0);
        m.cut(48);
        CHECKS.due("run(20, 5, 1, 1)", m.run(20, 5, 1, 1), 0);
        CHECKS.due("image 5, threshold 5", m.is(15, 15, 2), true);
        CHECKS.due("run(20, 6, 1, 1)", m.run(20, 6, 1, 1), 1);
        CHECKS.due("image 5, threshold 6", m.is(15, 15, 2), false);
        m.cut(4);
        CHECKS.due("behind a cut", m.is(15, 15, 2), false);
        m.kernel(1, 0);
        CHECKS.due("image 6, threshold 6", m.is(15, 15, 2), true);
    }

    private static void flatOnesStay() {
        Trial m = new Trial();
        CHECKS.closed(m, 4, 4, 20, 4, 20, 20, 12, 20, 12, 4, 28, 4, 28, 30, 4, 30);
        m.cut(8);
        CHECKS.due("run(1, 1, 1, 6)", m.run(1, 1, 1, 6), 1);
        CHECKS.dueMoves("flat", m, 1, 0, 1, 1, 1, 1, 1, 0, 1);
    }
}
