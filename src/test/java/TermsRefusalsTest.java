import java.util.function.ToIntFunction;

/** Terms: refusals change nothing, and the first one that fits is answered. */
final class TermsRefusalsTest {
    private static final Checks CHECKS = new Checks();

    private record Call(String text, ToIntFunction<Trial> told, int due) { }

    public static void main(String[] args) {
        rangeBeforeState();
        rangeBeforeRoom();
        stateBeforeRoom();
        unknownNumber();
        changeNothingInANewObject();
        changeNothingBeforeACut();
        changeNothingBehindARun();
        changeNothingWhenAllIsFull();
        CHECKS.finish();
    }

    private static void rangeBeforeState() {
        CHECKS.sentence("the first that fits: .. -2 outside a range, -3 not in this state");
        Trial m = new Trial();
        CHECKS.due("cut(0) of nothing", m.cut(0), -2);
        CHECKS.due("cut(49) of nothing", m.cut(49), -2);
        CHECKS.due("cut(48) of nothing", m.cut(48), -3);
        CHECKS.due("run(0, 1, 1, 1) of nothing", m.run(0, 1, 1, 1), -2);
        CHECKS.due("run(1, 1, 1, 7) of nothing", m.run(1, 1, 1, 7), -2);
        CHECKS.due("run(1, 1, 1, 6) of nothing", m.run(1, 1, 1, 6), -3);
        CHECKS.due("helper(0, 1) of nothing", m.helper(0, 1), -2);
        CHECKS.due("helper(1, 5) of nothing", m.helper(1, 5), -2);
        CHECKS.due("helper(1, 4) of nothing", m.helper(1, 4), -3);
        CHECKS.due("shift(4, 0) of nothing", m.shift(4, 0), -2);
        CHECKS.due("shift(0, 7) of nothing", m.shift(0, 7), -2);
        CHECKS.due("shift(0, 6) of nothing", m.shift(0, 6), -3);
    }

    private static void rangeBeforeRoom() {
        CHECKS.sentence("the first that fits: .. -2 outside a range, .. -4 no room");
        Trial m = CHECKS.plain(0, 0, 48, 48);
        for (int i = 1; i < 6; i++) {
            m.kernel(1, 1);
        }
        CHECKS.due("a seventh kernel(21, 0)", m.kernel(21, 0), -2);
        CHECKS.due("a seventh kernel(0, 7)", m.kernel(0, 7), -2);
        CHECKS.due("a seventh kernel(20, 6)", m.kernel(20, 6), -4);
        CHECKS.due("cut(0) of the square", m.cut(0), -2);
        CHECKS.due("cut(1) of the square", m.cut(1), -4);
        CHECKS.due("cut(2) of the square", m.cut(2), 96);
    }

    private static void stateBeforeRoom() {
        CHECKS.sentence("the first that fits: .. -3 not in this state, -4 no room");
        Trial m = CHECKS.plain(10, 10, 20, 20);
        m.polygon();
        m.polygon();
        m.polygon();
        CHECKS.due("no room", m.polygon(), -4);
        m.cut(48);
        CHECKS.due("pieces, and no room", m.polygon(), -3);
    }

    private static void unknownNumber() {
        CHECKS.sentence("-1 an unknown number");
        Trial m = CHECKS.plain(10, 10, 20, 20);
        CHECKS.due("worst(0) before a run", m.worst(0), -1);
        m.cut(48);
        m.shift(0, 1);
        m.run(1, 1, 1, 6);
        CHECKS.due("worst(-1)", m.worst(-1), -1);
        CHECKS.due("worst(1)", m.worst(1), 0);
        CHECKS.due("worst(2)", m.worst(2), -1);
    }

    /** Each call alone, so that no two of them can undo one another. */
    private static void dueRefused(String when, Trial m, Call... calls) {
        for (Call call : calls) {
            CHECKS.changesNothing(when + ", " + call.text, m.again(),
                t -> CHECKS.due(when + ", " + call.text, call.told.applyAsInt(t), call.due));
        }
    }

    private static void changeNothingInANewObject() {
        CHECKS.sentence("REFUSALS change nothing");
        dueRefused("new", new Trial(),
            new Call("cut(5)", t -> t.cut(5), -3),
            new Call("run(3, 9, 1, 1)", t -> t.run(3, 9, 1, 1), -3),
            new Call("helper(1, 1)", t -> t.helper(1, 1), -3),
            new Call("shift(0, 1)", t -> t.shift(0, 1), -3),
            new Call("kernel(21, 0)", t -> t.kernel(21, 0), -2),
            new Call("kernel(1, -1)", t -> t.kernel(1, -1), -2),
            new Call("corner(0, 5, 5)", t -> t.corner(0, 5, 5) ? 1 : 0, 0));
    }

    private static void changeNothingBeforeACut() {
        CHECKS.sentence("REFUSALS change nothing");
        Trial m = CHECKS.plain(10, 10, 20, 20);
        dueRefused("before a cut", m,
            new Call("cut(0)", t -> t.cut(0), -2),
            new Call("run(3, 2, 1, 1)", t -> t.run(3, 2, 1, 1), -3),
            new Call("helper(1, 1)", t -> t.helper(1, 1), -3),
            new Call("shift(0, 1)", t -> t.shift(0, 1), -3),
            new Call("corner(0, 10, 10)", t -> t.corner(0, 10, 10) ? 1 : 0, 0));
    }

    private static void changeNothingBehindARun() {
        CHECKS.sentence("REFUSALS change nothing");
        Trial m = new Trial();
        CHECKS.rectangle(m, 10, 10, 34, 34);
        CHECKS.rectangle(m, 38, 10, 45, 47);
        m.kernel(2, 2);
        m.polygon();
        m.corner(2, 1, 1);
        m.cut(6);
        m.helper(4, 1);
        m.shift(3, -2);
        CHECKS.due("some rounds are kept", m.run(3, 25, 1, 5) > 0, true);
        dueRefused("behind a run", m,
            new Call("polygon()", Trial::polygon, -3),
            new Call("corner(2, 5, 1)", t -> t.corner(2, 5, 1) ? 1 : 0, 0),
            new Call("kernel(-21, 1)", t -> t.kernel(-21, 1), -2),
            new Call("cut(49)", t -> t.cut(49), -2),
            new Call("cut(1)", t -> t.cut(1), -4),
            new Call("run(21, 7, 1, 1)", t -> t.run(21, 7, 1, 1), -2),
            new Call("run(1, 100001, 1, 1)", t -> t.run(1, 100_001, 1, 1), -2),
            new Call("run(1, 7, 5, 1)", t -> t.run(1, 7, 5, 1), -2),
            new Call("run(1, 7, 1, 7)", t -> t.run(1, 7, 1, 7), -2),
            new Call("helper(9, 1)", t -> t.helper(9, 1), -2),
            new Call("helper(1, 0)", t -> t.helper(1, 0), -2),
            new Call("shift(4, 1)", t -> t.shift(4, 1), -2),
            new Call("shift(0, -7)", t -> t.shift(0, -7), -2));
    }

    private static void changeNothingWhenAllIsFull() {
        CHECKS.sentence("REFUSALS change nothing");
        Trial m = new Trial();
        for (int i = 0; i < 4; i++) {
            CHECKS.rectangle(m, 12 * i, 2, 12 * i + 10, 40);
        }
        for (int i = 0; i < 6; i++) {
            m.kernel(1, i);
        }
        dueRefused("four polygons, six kernels", m,
            new Call("polygon()", Trial::polygon, -4),
            new Call("kernel(1, 1)", t -> t.kernel(1, 1), -4),
            new Call("cut(3)", t -> t.cut(3), -4));
    }
}
