import java.util.Random;

/** Many runs of calls by fixed seeds: the class must answer as the plain model does. */
final class AgainstModelTest {
    private static final int RUNS = 100;
    private static final int CALLS = 200;
    private static final int[] ODD_NUMBERS = {
        -1, 0, 1, 7, 21, 47, 48, 49, 120, 1001, Integer.MAX_VALUE, Integer.MIN_VALUE
    };

    private final Checks checks = new Checks();
    private final Random random;
    private final MaskEdges real = new MaskEdges();
    private final PlainModel model = new PlainModel();
    private final String name;
    private int pieces;

    private AgainstModelTest(int seed) {
        random = new Random(seed);
        name = "seed " + seed + ": ";
    }

    public static void main(String[] args) {
        for (int seed = 0; seed < RUNS; seed++) {
            AgainstModelTest test = new AgainstModelTest(seed);
            test.drawAll();
            for (int i = 0; i < CALLS; i++) {
                test.someCall();
            }
            test.checks.finish();
        }
    }

    private void drawAll() {
        int wanted = 1 + random.nextInt(4);
        for (int i = 0; i < wanted; i++) {
            polygon();
            draw(i);
        }
        for (int i = random.nextInt(5); i >= 0; i--) {
            kernel(random.nextInt(3) == 0 ? -random.nextInt(5) : random.nextInt(21), random.nextInt(7));
        }
        if (random.nextInt(10) > 0) {
            cut(3 + random.nextInt(46));
        }
    }

    /** Corners go along x and y in turn and may cross one another; some lines are told wrongly. */
    private void draw(int polygon) {
        int turns = random.nextInt(3) > 0 ? 2 : 2 + random.nextInt(7);
        int size = random.nextInt(3) == 0 ? 49 : 30;
        int[] xs = new int[turns];
        int[] ys = new int[turns];
        for (int i = 0; i < turns; i++) {
            xs[i] = random.nextInt(size);
            ys[i] = random.nextInt(size);
        }
        boolean xFirst = random.nextBoolean();
        for (int i = 0; i < 2 * turns; i++) {
            int x = xFirst ? xs[(i + 1) / 2 % turns] : xs[i / 2];
            int y = xFirst ? ys[i / 2] : ys[(i + 1) / 2 % turns];
            corner(polygon, x, y);
            if (random.nextInt(6) == 0) {
                corner(polygon, random.nextInt(52) - 2, random.nextInt(52) - 2);
            }
        }
        int x = xs[0];
        int y = ys[0];
        corner(polygon, x, y);
    }

    private int number(int below) {
        return random.nextInt(12) == 0 ? ODD_NUMBERS[random.nextInt(ODD_NUMBERS.length)]
            : random.nextInt(Math.max(1, below));
    }

    private int from(int least, int most) {
        return random.nextInt(15) == 0 ? ODD_NUMBERS[random.nextInt(ODD_NUMBERS.length)]
            : least + random.nextInt(most - least + 1);
    }

    private void someCall() {
        switch (random.nextInt(30)) {
            case 0 -> polygon();
            case 1 -> corner(number(4), number(49), number(49));
            case 2 -> kernel(from(-20, 20), from(0, 6));
            case 3 -> cut(from(1, 48));
            case 4, 5, 6 -> image();
            case 7, 8, 9 -> error(number(pieces));
            case 10, 11, 12 -> run();
            case 13, 14, 15 -> moved(number(pieces));
            case 16, 17 -> worst(number(5));
            case 18 -> helper(from(1, 8), from(1, 4));
            case 19, 20 -> prints(number(10), from(1, 1000));
            case 21, 22 -> edge(number(pieces), from(1, 300));
            case 23, 24 -> alike(number(pieces), number(pieces));
            case 25, 26 -> shift(from(0, 3), from(-6, 6));
            default -> is();
        }
    }

    private void polygon() {
        int got = real.polygon();
        checks.due(name + "polygon()", got, model.polygon());
    }

    private void corner(int polygon, int x, int y) {
        checks.due(name + "corner(" + polygon + ", " + x + ", " + y + ")",
            real.corner(polygon, x, y), model.corner(polygon, x, y));
    }

    private void kernel(int weight, int width) {
        checks.due(name + "kernel(" + weight + ", " + width + ")",
            real.kernel(weight, width), model.kernel(weight, width));
    }

    private void cut(int length) {
        int got = real.cut(length);
        pieces = got > 0 ? got : pieces;
        checks.due(name + "cut(" + length + ")", got, model.cut(length));
    }

    private void image() {
        int x = number(48);
        int y = number(48);
        checks.due(name + "image(" + x + ", " + y + ")", real.image(x, y), model.image(x, y));
    }

    private void error(int piece) {
        checks.due(name + "error(" + piece + ")", real.error(piece), model.error(piece));
    }

    private void run() {
        int rounds = from(1, 20);
        int threshold = random.nextBoolean() ? from(1, 40) : from(1, 1000);
        int step = from(1, 4);
        int limit = from(1, 6);
        checks.due(name + "run(" + rounds + ", " + threshold + ", " + step + ", " + limit + ")",
            real.run(rounds, threshold, step, limit), model.run(rounds, threshold, step, limit));
    }

    private void moved(int piece) {
        checks.due(name + "moved(" + piece + ")", real.moved(piece), model.moved(piece));
    }

    private void worst(int round) {
        checks.due(name + "worst(" + round + ")", real.worst(round), model.worst(round));
    }

    private void helper(int space, int width) {
        checks.due(name + "helper(" + space + ", " + width + ")",
            real.helper(space, width), model.helper(space, width));
    }

    private void prints(int bar, int dose) {
        checks.due(name + "prints(" + bar + ", " + dose + ")",
            real.prints(bar, dose), model.prints(bar, dose));
    }

    private void edge(int piece, int dose) {
        checks.due(name + "edge(" + piece + ", " + dose + ")",
            real.edge(piece, dose), model.edge(piece, dose));
    }

    private void alike(int a, int b) {
        checks.due(name + "alike(" + a + ", " + b + ")", real.alike(a, b), model.alike(a, b));
    }

    private void shift(int rule, int v) {
        checks.due(name + "shift(" + rule + ", " + v + ")", real.shift(rule, v), model.shift(rule, v));
    }

    private void is() {
        int x = number(48);
        int y = number(48);
        int what = from(0, 2);
        checks.due(name + "is(" + x + ", " + y + ", " + what + ")",
            real.is(x, y, what), model.is(x, y, what));
    }
}
