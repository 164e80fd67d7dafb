import java.util.function.ToLongFunction;

/**
 * Every call with every mix of numbers in, at and far beyond its ranges, in objects that have
 * nothing, polygons, or pieces, bars and a run: none throws, and each answers as the model does.
 */
final class AnyNumbersTest {
    private static final int[] NUMBERS = {
        Integer.MIN_VALUE, -100, -7, -1, 0, 1, 3, 7, 20, 47, 48, 49, 119, 120, 1000, 1001, 100_000, 100_001,
        Integer.MAX_VALUE
    };
    private static final int[] FEW_NUMBERS = {Integer.MIN_VALUE, -1, 0, 1, 4, 7, 21, Integer.MAX_VALUE};
    private static final long[] COORDINATES = {
        Long.MIN_VALUE, -(1L << 32) + 5, -1, 0, 5, 15, 48, 49, 1L << 32, (1L << 32) + 15, Long.MAX_VALUE
    };
    private static final int STATES = 3;
    private static final Checks CHECKS = new Checks();

    public static void main(String[] args) {
        CHECKS.sentence("REFUSALS change nothing and answer, the first that fits");
        for (int state = 0; state < STATES; state++) {
            oneNumber(state);
            twoNumbers(state);
            threeNumbers(state);
            runs(state);
        }
        CHECKS.finish();
    }

    private static void due(int state, String call, ToLongFunction<MaskEdges> real, ToLongFunction<PlainModel> model) {
        CHECKS.due("state " + state + ": " + call, real.applyAsLong(realIn(state)), model.applyAsLong(modelIn(state)));
    }

    private static MaskEdges realIn(int state) {
        MaskEdges m = new MaskEdges();
        if (state > 0) {
            m.polygon();
            m.corner(0, 5, 5);
            m.corner(0, 15, 5);
            m.corner(0, 15, 15);
            m.corner(0, 5, 15);
            m.corner(0, 5, 5);
            m.kernel(2, 1);
            m.polygon();
            m.corner(1, 5, 20);
        }
        if (state > 1) {
            m.cut(4);
            m.helper(2, 1);
            m.run(2, 7, 1, 3);
        }
        return m;
    }

    private static PlainModel modelIn(int state) {
        PlainModel m = new PlainModel();
        if (state > 0) {
            m.polygon();
            m.corner(0, 5, 5);
            m.corner(0, 15, 5);
            m.corner(0, 15, 15);
            m.corner(0, 5, 15);
            m.corner(0, 5, 5);
            m.kernel(2, 1);
            m.polygon();
            m.corner(1, 5, 20);
        }
        if (state > 1) {
            m.cut(4);
            m.helper(2, 1);
            m.run(2, 7, 1, 3);
        }
        return m;
    }

    private static void oneNumber(int state) {
        due(state, "polygon()", MaskEdges::polygon, PlainModel::polygon);
        for (int a : NUMBERS) {
            due(state, "cut(" + a + ")", m -> m.cut(a), m -> m.cut(a));
            due(state, "error(" + a + ")", m -> m.error(a), m -> m.error(a));
            due(state, "moved(" + a + ")", m -> m.moved(a), m -> m.moved(a));
            due(state, "worst(" + a + ")", m -> m.worst(a), m -> m.worst(a));
        }
    }

    private static void twoNumbers(int state) {
        for (int a : NUMBERS) {
            for (int b : NUMBERS) {
                String ab = "(" + a + ", " + b + ")";
                due(state, "kernel" + ab, m -> m.kernel(a, b), m -> m.kernel(a, b));
                due(state, "image" + ab, m -> m.image(a, b), m -> m.image(a, b));
                due(state, "helper" + ab, m -> m.helper(a, b), m -> m.helper(a, b));
                due(state, "prints" + ab, m -> m.prints(a, b) ? 1 : 0, m -> m.prints(a, b) ? 1 : 0);
                due(state, "edge" + ab, m -> m.edge(a, b), m -> m.edge(a, b));
                due(state, "alike" + ab, m -> m.alike(a, b) ? 1 : 0, m -> m.alike(a, b) ? 1 : 0);
                due(state, "shift" + ab, m -> m.shift(a, b), m -> m.shift(a, b));
            }
        }
    }

    private static void threeNumbers(int state) {
        for (int polygon : FEW_NUMBERS) {
            for (long x : COORDINATES) {
                for (long y : COORDINATES) {
                    due(state, "corner(" + polygon + ", " + x + ", " + y + ")",
                        m -> m.corner(polygon, x, y) ? 1 : 0, m -> m.corner(polygon, x, y) ? 1 : 0);
                }
            }
        }
        for (int what : FEW_NUMBERS) {
            for (int x : NUMBERS) {
                for (int y : FEW_NUMBERS) {
                    due(state, "is(" + x + ", " + y + ", " + what + ")",
                        m -> m.is(x, y, what) ? 1 : 0, m -> m.is(x, y, what) ? 1 : 0);
                }
            }
        }
    }

    private static void runs(int state) {
        for (int rounds : FEW_NUMBERS) {
            for (int threshold : FEW_NUMBERS) {
                for (int step : FEW_NUMBERS) {
                    for (int limit : FEW_NUMBERS) {
                        due(state, "run(" + rounds + ", " + threshold + ", " + step + ", " + limit + ")",
                            m -> m.run(rounds, threshold, step, limit), m -> m.run(rounds, threshold, step, limit));
                    }
                }
            }
        }
    }
}
