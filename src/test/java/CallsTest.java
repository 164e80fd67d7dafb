/** What it is: an object is used for at most 512 calls, and all of those are answered. */
final class CallsTest {
    private static final int MOST_CALLS = 512;
    private static final Checks CHECKS = new Checks();

    public static void main(String[] args) {
        theLastCallAnswers();
        theLastCallChanges();
        laterCallsDoNotThrow();
        CHECKS.finish();
    }

    /** Five corners, the polygon, the kernel and the cut are 8 calls. */
    private static MaskEdges square() {
        MaskEdges m = new MaskEdges();
        m.polygon();
        m.corner(0, 10, 10);
        m.corner(0, 20, 10);
        m.corner(0, 20, 20);
        m.corner(0, 10, 20);
        m.corner(0, 10, 10);
        m.kernel(1, 0);
        m.cut(5);
        return m;
    }

    private static void theLastCallAnswers() {
        CHECKS.sentence("An object is used for at most 512 calls after it has been made");
        MaskEdges m = square();
        for (int call = 9; call <= MOST_CALLS; call++) {
            CHECKS.due("call " + call, m.is(call % 48, 15, 1), call % 48 >= 10 && call % 48 < 20);
        }
    }

    /** Calls that change something all the way: 1 and 0 are the moves in turn. */
    private static void theLastCallChanges() {
        CHECKS.sentence("An object is used for at most 512 calls after it has been made");
        MaskEdges m = square();
        for (int call = 9; call <= MOST_CALLS; call++) {
            int kind = call % 4;
            if (kind == 1) {
                CHECKS.due("shift, call " + call, m.shift(0, 1), 8);
            } else if (kind == 2) {
                CHECKS.due("moved, call " + call, m.moved(7), 1);
            } else if (kind == 3) {
                CHECKS.due("run, call " + call, m.run(20, 1, 1, 6), 1);
            } else {
                CHECKS.due("cut, call " + call, m.cut(5), 8);
            }
        }
    }

    /** What they answer is free; that they answer is not. */
    private static void laterCallsDoNotThrow() {
        CHECKS.sentence("what later calls answer is free");
        MaskEdges m = square();
        for (int call = 9; call <= 4 * MOST_CALLS; call++) {
            m.polygon();
            m.corner(call % 5, call % 49, call % 48);
            m.kernel(call % 20, call % 7);
            m.cut(1 + call % 48);
            m.shift(call % 4, call % 7);
            m.helper(1 + call % 8, 1 + call % 4);
            m.run(1 + call % 20, call, 1 + call % 4, 1 + call % 6);
            m.worst(call % 21);
            m.error(call % 121);
            m.prints(call % 25, call % 1001);
            m.alike(call % 30, call % 9);
            m.is(call % 49, call % 50, 2);
        }
    }
}
