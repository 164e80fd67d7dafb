/** Terms: what a round does, when it is kept, and how a run ends. */
final class TermsRoundTest {
    private static final Checks CHECKS = new Checks();

    public static void main(String[] args) {
        flatOnesDoNotMove();
        atMostByTheStep();
        withinTheLimit();
        beyondTheLimitBefore();
        beyondTheLimitWithoutAnError();
        allAtOnce();
        keptWithTheSameWorstError();
        keptWithALesserWorstError();
        notKeptWithAGreaterWorstError();
        notKeptWithAWorstErrorOneGreater();
        notKeptBehindKeptOnes();
        notKeptWithAllPieces();
        notKeptWithoutAnotherMove();
        oneOtherMoveIsEnough();
        endsWithoutAnError();
        endsWithoutAnErrorBehindARound();
        CHECKS.finish();
    }

    /** The mask prints as it is, so a MOVE of v is an error of v. */
    private static Trial movedBy(int v) {
        Trial m = CHECKS.plain(15, 15, 30, 30);
        m.cut(48);
        m.shift(0, v);
        return m;
    }

    /** No KERNEL: nothing prints, each error is -8. */
    private static Trial dark() {
        Trial m = new Trial();
        CHECKS.rectangle(m, 15, 15, 30, 30);
        m.cut(48);
        return m;
    }

    private static void flatOnesDoNotMove() {
        CHECKS.sentence("each PIECE that is not FLAT moves by its ERROR");
        Trial m = CHECKS.crossing();
        m.cut(8);
        CHECKS.due("run(1, 1, 1, 6)", m.run(1, 1, 1, 6), 1);
        CHECKS.dueMoves("1 and 7 are flat", m, 1, 0, 1, 1, 1, 1, 1, 0, 1);
    }

    private static void atMostByTheStep() {
        CHECKS.sentence("moves by its ERROR, at most by the step, against it");
        for (int error = 1; error <= 6; error++) {
            for (int step = 1; step <= 4; step++) {
                int left = Math.max(0, error - step);
                Trial more = movedBy(error);
                String when = "error " + error + ", step " + step;
                CHECKS.due(when, more.run(1, 1, step, 6), 1);
                CHECKS.dueMoves(when, more, left, left, left, left);
                CHECKS.dueErrors(when, more, left, left, left, left);
                Trial less = movedBy(-error);
                CHECKS.due(when + " below 0", less.run(1, 1, step, 6), 1);
                CHECKS.dueMoves(when + " below 0", less, -left, -left, -left, -left);
                CHECKS.dueErrors(when + " below 0", less, -left, -left, -left, -left);
            }
        }
    }

    private static void withinTheLimit() {
        CHECKS.sentence("within the limit");
        for (int limit = 1; limit <= 6; limit++) {
            for (int step = 1; step <= 4; step++) {
                Trial m = dark();
                String when = "step " + step + ", limit " + limit;
                CHECKS.due(when, m.run(1, 1, step, limit), 1);
                int want = Math.min(step, limit);
                CHECKS.dueMoves(when, m, want, want, want, want);
                CHECKS.due(when + ", up to it", m.run(20, 1, step, limit), (limit - want + step - 1) / step);
                CHECKS.dueMoves(when + ", up to it", m, limit, limit, limit, limit);
                CHECKS.due(when + ", at it", m.run(20, 1, step, limit), 0);
                CHECKS.dueMoves(when + ", at it", m, limit, limit, limit, limit);
            }
        }
    }

    /** A full grid prints on both hands of each inner side: they go in, down to the limit. */
    private static void beyondTheLimitBefore() {
        CHECKS.sentence("within the limit (also if it is beyond it before)");
        for (int limit = 1; limit <= 5; limit++) {
            for (int v = limit - 1; v <= 6; v++) {
                int want = Math.min(limit, Math.max(0, v - 1));
                String when = "move " + v + ", limit " + limit;
                Trial above = movedBy(v);
                above.run(1, 1, 1, limit);
                CHECKS.dueMoves(when, above, want, want, want, want);
                Trial below = movedBy(-v);
                below.run(1, 1, 1, limit);
                CHECKS.dueMoves(when + " below 0", below, -want, -want, -want, -want);
            }
        }
    }

    /** The top and left pieces move beyond the grid, where nothing prints: no error, but a limit. */
    private static void beyondTheLimitWithoutAnError() {
        CHECKS.sentence("within the limit (also if it is beyond it before)");
        Trial m = CHECKS.plain(0, 0, 15, 15);
        m.cut(48);
        m.shift(0, 5);
        CHECKS.dueErrors("at the grid's edge", m, 0, 5, 5, 0);
        CHECKS.due("run(1, 1, 1, 2)", m.run(1, 1, 1, 2), 1);
        CHECKS.dueMoves("within the limit", m, 2, 2, 2, 2);
    }

    /** When the left one's piece on x = 20 has moved, the right one's on the same line has no error. */
    private static void allAtOnce() {
        CHECKS.sentence("all at once");
        Trial m = CHECKS.plain(10, 10, 20, 20);
        CHECKS.rectangle(m, 20, 10, 30, 20);
        m.cut(48);
        CHECKS.dueErrors("before", m, 0, 8, 0, 0, 0, 0, 0, 8);
        CHECKS.due("run(1, 1, 1, 6)", m.run(1, 1, 1, 6), 1);
        CHECKS.dueMoves("both have moved", m, 0, -1, 0, 0, 0, 0, 0, -1);
    }

    private static void keptWithTheSameWorstError() {
        CHECKS.sentence("It is kept, if .. THE WORST ERROR is not greater than before");
        Trial m = dark();
        CHECKS.due("run(3, 1, 1, 6)", m.run(3, 1, 1, 6), 3);
        CHECKS.dueMoves("kept", m, 3, 3, 3, 3);
        for (int round = 0; round <= 3; round++) {
            CHECKS.due("worst(" + round + ")", m.worst(round), 8);
        }
    }

    private static void keptWithALesserWorstError() {
        CHECKS.sentence("It is kept, if .. THE WORST ERROR is not greater than before");
        Trial m = movedBy(3);
        CHECKS.due("run(1, 1, 1, 6)", m.run(1, 1, 1, 6), 1);
        CHECKS.due("before", m.worst(0), 3);
        CHECKS.due("behind", m.worst(1), 2);
        CHECKS.dueMoves("kept", m, 2, 2, 2, 2);
    }

    /** Against an error of 1 the one row of the mask goes, and nothing prints any more. */
    private static void notKeptWithAGreaterWorstError() {
        CHECKS.sentence("else all MOVES are as before, and the run ends");
        Trial m = new Trial();
        CHECKS.rectangle(m, 10, 10, 20, 11);
        m.kernel(1, 1);
        m.cut(48);
        CHECKS.dueErrors("before", m, 1, 1, 1, 1);
        CHECKS.due("run(20, 1, 1, 6)", m.run(20, 1, 1, 6), 0);
        CHECKS.dueMoves("as before", m, 0, 0, 0, 0);
        CHECKS.dueErrors("as before", m, 1, 1, 1, 1);
        CHECKS.dueCells("as before", m, 1, Checks.box(10, 10, 20, 11));
        CHECKS.due("worst(0)", m.worst(0), 1);
        CHECKS.due("worst(1)", m.worst(1), -1);
        m.shift(2, -1);
        CHECKS.due("with moves before", m.run(20, 1, 1, 6), 0);
        CHECKS.dueMoves("with moves before", m, 0, -1, 0, -1);
        CHECKS.dueCells("with moves before", m, 1, Checks.box(11, 10, 19, 11));
    }

    /**
     * A row of the mask is left by the round. Above and below it all is well then, but at its ends
     * the image is 1 and 2, where 3 is asked: an error of -2 where it was 1.
     */
    private static void notKeptWithAWorstErrorOneGreater() {
        CHECKS.sentence("It is kept, if .. THE WORST ERROR is not greater than before");
        Trial m = new Trial();
        CHECKS.rectangle(m, 10, 20, 30, 23);
        m.kernel(1, 1);
        m.cut(48);
        CHECKS.due("run(20, 3, 1, 6)", m.run(20, 3, 1, 6), 0);
        CHECKS.due("before", m.worst(0), 1);
        CHECKS.dueErrors("as before", m, 1, 1, 1, 1);
        CHECKS.dueMoves("as before", m, 0, 0, 0, 0);
        m.shift(0, -1);
        CHECKS.dueErrors("what the round would do", m, 0, -2, 0, -2);
    }

    /** Two rounds take the moved rows back; the third would take the last one. The ends go in by 2. */
    private static void notKeptBehindKeptOnes() {
        CHECKS.sentence("else all MOVES are as before, and the run ends");
        Trial m = new Trial();
        CHECKS.rectangle(m, 10, 20, 30, 21);
        m.kernel(1, 1);
        m.cut(48);
        m.shift(1, 2);
        CHECKS.due("run(20, 1, 1, 6)", m.run(20, 1, 1, 6), 2);
        CHECKS.dueMoves("as behind the second", m, 0, -2, 0, -2);
        CHECKS.dueCells("as behind the second", m, 1, Checks.box(12, 20, 28, 21));
        int[] worsts = {3, 2, 1, -1};
        for (int round = 0; round < worsts.length; round++) {
            CHECKS.due("worst(" + round + ")", m.worst(round), worsts[round]);
        }
        CHECKS.due("once more", m.run(20, 1, 1, 6), 0);
    }

    /** Two thin ones of 22 and 98 pieces: against the error of 1 all of the mask goes. */
    private static void notKeptWithAllPieces() {
        CHECKS.sentence("else all MOVES are as before, and the run ends");
        Trial m = new Trial();
        CHECKS.rectangle(m, 10, 10, 20, 11);
        CHECKS.rectangle(m, 0, 30, 48, 31);
        m.kernel(1, 1);
        CHECKS.due("cut(1)", m.cut(1), 120);
        m.shift(3, 1);
        Trial before = m.again();
        CHECKS.due("run(20, 1, 4, 6)", m.run(20, 1, 4, 6), 0);
        for (int piece = 0; piece < 120; piece++) {
            CHECKS.due("moved(" + piece + ")", m.moved(piece), before.moved(piece));
            CHECKS.due("error(" + piece + ")", m.error(piece), before.error(piece));
        }
    }

    private static void notKeptWithoutAnotherMove() {
        CHECKS.sentence("It is kept, if some MOVE is another one");
        Trial m = dark();
        m.shift(0, 4);
        CHECKS.due("all are at the limit", m.run(20, 1, 4, 4), 0);
        CHECKS.dueMoves("all are at the limit", m, 4, 4, 4, 4);
        CHECKS.due("worst(0)", m.worst(0), 8);
        CHECKS.due("worst(1)", m.worst(1), -1);
        CHECKS.due("one below it", m.run(20, 1, 4, 5), 1);
        CHECKS.dueMoves("one below it", m, 5, 5, 5, 5);
    }

    private static void oneOtherMoveIsEnough() {
        CHECKS.sentence("It is kept, if some MOVE is another one");
        for (int rule = 1; rule <= 2; rule++) {
            Trial m = dark();
            m.shift(0, 4);
            m.shift(rule, -1);
            CHECKS.due("two of four are below the limit", m.run(20, 1, 1, 4), 1);
            CHECKS.dueMoves("rule " + rule, m, 4, 4, 4, 4);
        }
        int[][] rectangles = {{0, 15, 48, 48}, {0, 0, 33, 48}, {0, 0, 48, 33}, {15, 0, 48, 48}};
        for (int side = 0; side < 4; side++) {
            int[] r = rectangles[side];
            Trial m = CHECKS.plain(r[0], r[1], r[2], r[3]);
            m.cut(48);
            m.shift(0, 3);
            CHECKS.due("one of four has an error", m.run(1, 1, 1, 6), 1);
            for (int piece = 0; piece < 4; piece++) {
                CHECKS.due("moved(" + piece + ")", m.moved(piece), piece == side ? 2 : 3);
            }
        }
    }

    private static void endsWithoutAnError() {
        CHECKS.sentence("It also ends before a ROUND when THE WORST ERROR is 0");
        Trial m = movedBy(0);
        CHECKS.due("no error", m.run(20, 1, 1, 1), 0);
        CHECKS.due("worst(0)", m.worst(0), 0);
        CHECKS.due("worst(1)", m.worst(1), -1);

        Trial beyond = CHECKS.plain(0, 0, 48, 48);
        beyond.cut(48);
        beyond.shift(0, 5);
        CHECKS.due("no error, though beyond the limit", beyond.run(20, 1, 1, 1), 0);
        CHECKS.dueMoves("no error, though beyond the limit", beyond, 5, 5, 5, 5);
    }

    private static void endsWithoutAnErrorBehindARound() {
        CHECKS.sentence("It also ends before a ROUND when THE WORST ERROR is 0");
        Trial m = movedBy(2);
        CHECKS.due("run(20, 1, 1, 6)", m.run(20, 1, 1, 6), 2);
        CHECKS.due("worst(2)", m.worst(2), 0);
        CHECKS.due("worst(3)", m.worst(3), -1);
        CHECKS.dueMoves("no error left", m, 0, 0, 0, 0);
    }
}
