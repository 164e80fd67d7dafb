/** run: its ranges, how many rounds are kept, and the threshold that stays. */
final class Promise08Test {
    private static final Checks CHECKS = new Checks();

    public static void main(String[] args) {
        rounds();
        thresholds();
        steps();
        limits();
        allOutside();
        asManyAsTold();
        howManyWereKept();
        thresholdStays();
        refusedThresholdDoesNotStay();
        noPieces();
        CHECKS.finish();
    }

    /** The mask prints as it is, so a MOVE of v is an error of v. */
    private static Trial movedBy(int v) {
        Trial m = CHECKS.plain(15, 15, 30, 30);
        m.cut(48);
        m.shift(0, v);
        return m;
    }

    /** Rounds that put a row in and out again, without an end of their own. */
    private static Trial endless() {
        Trial m = new Trial();
        CHECKS.rectangle(m, 10, 10, 16, 16);
        m.kernel(6, 1);
        m.kernel(-1, 3);
        m.cut(3);
        return m;
    }

    private static void dueRefused(int rounds, int threshold, int step, int limit) {
        String call = "run(" + rounds + ", " + threshold + ", " + step + ", " + limit + ")";
        CHECKS.due(call + " without pieces", new Trial().run(rounds, threshold, step, limit), -2);
        Trial m = movedBy(3);
        m.run(1, 1, 1, 6);
        CHECKS.changesNothing(call, m, t -> CHECKS.due(call, t.run(rounds, threshold, step, limit), -2));
    }

    private static void rounds() {
        CHECKS.sentence("Up to so many ROUNDS (1 .. 20)");
        int[] out = {0, -1, 21, Integer.MAX_VALUE, Integer.MIN_VALUE};
        for (int rounds : out) {
            dueRefused(rounds, 1, 1, 1);
        }
        CHECKS.due("run(1, 1, 1, 6)", movedBy(3).run(1, 1, 1, 6), 1);
        CHECKS.due("run(20, 1, 1, 6)", movedBy(3).run(20, 1, 1, 6), 3);
    }

    private static void thresholds() {
        CHECKS.sentence("by THE THRESHOLD (1 .. 100,000, which stays)");
        int[] out = {0, -1, 100_001, Integer.MAX_VALUE, Integer.MIN_VALUE};
        for (int threshold : out) {
            dueRefused(1, threshold, 1, 1);
        }
        Trial least = movedBy(3);
        CHECKS.due("run(1, 1, 1, 6)", least.run(1, 1, 1, 6), 1);
        CHECKS.due("an image of 1 prints", least.is(20, 20, 2), true);
        Trial most = movedBy(3);
        CHECKS.due("run(1, 100000, 1, 6)", most.run(1, 100_000, 1, 6), 1);
        CHECKS.due("nothing prints", most.is(20, 20, 2), false);
        CHECKS.dueMoves("so all move outward", most, 4, 4, 4, 4);
    }

    private static void steps() {
        CHECKS.sentence("step (1 .. 4)");
        int[] out = {0, -1, 5, Integer.MAX_VALUE, Integer.MIN_VALUE};
        for (int step : out) {
            dueRefused(1, 1, step, 1);
        }
        for (int step = 1; step <= 4; step++) {
            Trial m = movedBy(6);
            CHECKS.due("run(1, 1, " + step + ", 6)", m.run(1, 1, step, 6), 1);
            CHECKS.due("moved(0)", m.moved(0), 6 - step);
        }
    }

    private static void limits() {
        CHECKS.sentence("limit (1 .. 6)");
        int[] out = {0, -1, 7, Integer.MAX_VALUE, Integer.MIN_VALUE};
        for (int limit : out) {
            dueRefused(1, 1, 1, limit);
        }
        for (int limit = 1; limit <= 6; limit++) {
            Trial m = movedBy(0);
            CHECKS.due("up to the limit", m.run(20, 2, 1, limit), limit);
            CHECKS.due("moved(0)", m.moved(0), limit);
        }
    }

    private static void allOutside() {
        CHECKS.sentence("-2");
        dueRefused(0, 0, 0, 0);
        dueRefused(21, 100_001, 5, 7);
        CHECKS.due("the least of all", movedBy(3).run(1, 1, 1, 1), 1);
        CHECKS.due("the greatest of all", movedBy(3).run(20, 100_000, 4, 6), 1);
    }

    private static void asManyAsTold() {
        CHECKS.sentence("Up to so many ROUNDS");
        for (int rounds = 1; rounds <= 20; rounds++) {
            CHECKS.due("endless, run(" + rounds + ", 1, 1, 6)", endless().run(rounds, 1, 1, 6), rounds);
        }
        Trial m = movedBy(5);
        CHECKS.due("run(2, 1, 1, 6)", m.run(2, 1, 1, 6), 2);
        CHECKS.dueMoves("two rounds", m, 3, 3, 3, 3);
        CHECKS.dueCells("two rounds", m, 1, Checks.box(15, 12, 30, 33), Checks.box(12, 15, 33, 30));
        CHECKS.due("run(1, 1, 1, 6)", m.run(1, 1, 1, 6), 1);
        CHECKS.dueMoves("one round more", m, 2, 2, 2, 2);
    }

    private static void howManyWereKept() {
        CHECKS.sentence("how many were kept");
        int[][] moveStepKept = {
            {0, 1, 0}, {1, 1, 1}, {3, 1, 3}, {3, 2, 2}, {3, 3, 1}, {3, 4, 1}, {-3, 1, 3}, {-3, 2, 2}, {-4, 4, 1},
            {6, 4, 2}, {-6, 1, 6}
        };
        for (int[] each : moveStepKept) {
            Trial m = movedBy(each[0]);
            String when = "move " + each[0] + ", step " + each[1];
            CHECKS.due(when, m.run(20, 1, each[1], 6), each[2]);
            CHECKS.dueMoves(when, m, 0, 0, 0, 0);
            CHECKS.dueErrors(when, m, 0, 0, 0, 0);
            CHECKS.dueCells(when, m, 1, Checks.box(15, 15, 30, 30));
        }
    }

    /** The image is 5: a threshold of 5 prints, one of 6 does not. */
    private static void thresholdStays() {
        CHECKS.sentence("THE THRESHOLD (1 .. 100,000, which stays)");
        Trial m = new Trial();
        CHECKS.rectangle(m, 10, 10, 20, 20);
        m.kernel(5, 0);
        m.cut(48);
        CHECKS.due("run(20, 5, 1, 1)", m.run(20, 5, 1, 1), 0);
        CHECKS.due("threshold 5", m.is(15, 15, 2), true);
        CHECKS.dueErrors("threshold 5", m, 0, 0, 0, 0);
        m.helper(3, 1);
        CHECKS.due("run(20, 6, 1, 1)", m.run(20, 6, 1, 1), 1);
        CHECKS.due("threshold 6", m.is(15, 15, 2), false);
        CHECKS.dueErrors("threshold 6", m, -8, -8, -8, -8);
        CHECKS.due("threshold 6, a bar", m.prints(0, 119), false);
        CHECKS.due("threshold 6, a bar", m.prints(0, 120), true);
        m.cut(4);
        CHECKS.due("behind a cut", m.is(15, 15, 2), false);
        m.kernel(1, 0);
        CHECKS.due("image 6, threshold 6", m.is(15, 15, 2), true);

        Trial none = CHECKS.plain(10, 10, 20, 20);
        none.cut(48);
        none.shift(0, 2);
        CHECKS.due("a run without a kept round", none.run(1, 2, 1, 2), 0);
        CHECKS.due("tells the threshold too", none.is(15, 15, 2), false);
    }

    private static void refusedThresholdDoesNotStay() {
        CHECKS.sentence("REFUSALS change nothing");
        Trial m = CHECKS.plain(10, 10, 20, 20);
        CHECKS.due("without pieces", m.run(1, 2, 1, 1), -3);
        CHECKS.due("an image of 1 prints", m.is(15, 15, 2), true);
        m.cut(48);
        CHECKS.due("a wrong limit", m.run(1, 2, 1, 0), -2);
        CHECKS.due("an image of 1 prints", m.is(15, 15, 2), true);
        CHECKS.due("a wrong step", m.run(1, 2, 5, 1), -2);
        CHECKS.due("an image of 1 prints", m.is(15, 15, 2), true);
        CHECKS.due("too many rounds", m.run(21, 2, 1, 1), -2);
        CHECKS.due("an image of 1 prints", m.is(15, 15, 2), true);
    }

    private static void noPieces() {
        CHECKS.sentence("-3 there are no PIECES");
        CHECKS.due("a new object", new Trial().run(1, 1, 1, 1), -3);
        Trial m = CHECKS.plain(15, 15, 30, 30);
        CHECKS.changesNothing("closed, but not cut", m, t -> CHECKS.due("not cut", t.run(20, 9, 1, 1), -3));
        m.cut(49);
        CHECKS.due("behind a refused cut", m.run(20, 1, 1, 1), -3);
        m.cut(48);
        CHECKS.due("behind a cut", m.run(20, 1, 1, 1), 0);
    }
}
