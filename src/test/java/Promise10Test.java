/** worst: the worst errors of the last run, behind each kept round. */
final class Promise10Test {
    private static final Checks CHECKS = new Checks();

    public static void main(String[] args) {
        behindEachKeptRound();
        atItsBeginning();
        noneSuch();
        twentyRounds();
        theLastRun();
        otherCallsAreNoRun();
        CHECKS.finish();
    }

    private static void dueWorsts(String when, Trial m, int... worsts) {
        for (int i = 0; i < worsts.length; i++) {
            CHECKS.due(when + ": worst(" + i + ")", m.worst(i), worsts[i]);
        }
        for (int i = worsts.length; i <= 21; i++) {
            CHECKS.due(when + ": worst(" + i + ")", m.worst(i), -1);
        }
    }

    /** The mask prints as it is, so a MOVE of v is an error of v. */
    private static Trial movedBy(int alongX, int alongY) {
        Trial m = CHECKS.plain(15, 15, 30, 30);
        m.cut(48);
        m.shift(1, alongX);
        m.shift(2, alongY);
        return m;
    }

    private static void behindEachKeptRound() {
        CHECKS.sentence("THE WORST ERROR of the last run behind so many kept ROUNDS");
        Trial m = movedBy(6, 6);
        CHECKS.due("run(20, 1, 1, 4)", m.run(20, 1, 1, 4), 5);
        dueWorsts("beyond the limit", m, 6, 4, 3, 2, 1, 0);
        Trial two = movedBy(2, -3);
        CHECKS.due("run(20, 1, 1, 6)", two.run(20, 1, 1, 6), 3);
        dueWorsts("2 and -3", two, 3, 2, 1, 0);
        Trial part = movedBy(4, 4);
        CHECKS.due("run(2, 1, 1, 6)", part.run(2, 1, 1, 6), 2);
        dueWorsts("two rounds of four", part, 4, 3, 2);
    }

    private static void atItsBeginning() {
        CHECKS.sentence("(0: at its beginning)");
        Trial m = movedBy(0, 0);
        CHECKS.due("no error", m.run(20, 1, 1, 1), 0);
        dueWorsts("no error", m, 0);
        Trial dark = movedBy(1, 1);
        CHECKS.due("no round is kept", dark.run(20, 2, 1, 1), 0);
        dueWorsts("by the threshold that is told", dark, 8);
    }

    private static void noneSuch() {
        CHECKS.sentence("-1 there is none such");
        Trial m = movedBy(2, 2);
        dueWorsts("before a run", m);
        m.run(1, 1, 1, 6);
        dueWorsts("one round", m, 2, 1);
        int[] none = {-1, 2, 20, 21, 22, Integer.MAX_VALUE, Integer.MIN_VALUE};
        for (int round : none) {
            CHECKS.due("worst(" + round + ")", m.worst(round), -1);
        }
    }

    /** Rounds that put a row in and out again, without an end of their own. */
    private static void twentyRounds() {
        CHECKS.sentence("behind so many kept ROUNDS");
        Trial m = new Trial();
        CHECKS.rectangle(m, 10, 10, 16, 16);
        m.kernel(6, 1);
        m.kernel(-1, 3);
        m.cut(3);
        CHECKS.due("run(19, 1, 1, 6)", m.run(19, 1, 1, 6), 19);
        CHECKS.due("worst(19)", m.worst(19), 1);
        CHECKS.due("worst(20)", m.worst(20), -1);
        CHECKS.due("run(20, 1, 1, 6)", m.run(20, 1, 1, 6), 20);
        dueWorsts("twenty", m, 1, 1, 1, 1, 1, 1, 1, 1, 1, 1, 1, 1, 1, 1, 1, 1, 1, 1, 1, 1, 1);
    }

    private static void theLastRun() {
        CHECKS.sentence("THE WORST ERROR of the last run");
        Trial m = movedBy(5, 5);
        CHECKS.due("run(20, 1, 1, 6)", m.run(20, 1, 1, 6), 5);
        m.shift(2, -3);
        CHECKS.due("a shorter one", m.run(1, 1, 1, 6), 1);
        dueWorsts("a shorter one", m, 3, 2);
        m.cut(48);
        CHECKS.due("one without a round", m.run(1, 1, 1, 6), 0);
        dueWorsts("one without a round", m, 0);
    }

    private static void otherCallsAreNoRun() {
        CHECKS.sentence("THE WORST ERROR of the last run");
        Trial m = movedBy(3, 3);
        m.run(20, 1, 1, 6);
        dueWorsts("a run", m, 3, 2, 1, 0);
        m.shift(0, -5);
        dueWorsts("a shift is none", m, 3, 2, 1, 0);
        CHECKS.due("a refused run", m.run(21, 1, 1, 4), -2);
        dueWorsts("a refused run is none", m, 3, 2, 1, 0);
        CHECKS.due("helper(4, 1)", m.helper(4, 1), 4);
        dueWorsts("a helper is none", m, 3, 2, 1, 0);
        CHECKS.due("cut(48)", m.cut(48), 4);
        dueWorsts("a cut is none", m, 3, 2, 1, 0);
    }
}
