import java.util.ArrayList;
import java.util.List;
import java.util.function.ToLongFunction;

/**
 * A MaskEdges on trial. An object is promised to answer for 512 calls alone, so the calls that may
 * change something are kept, and told once more to a new object when those 512 are used up.
 */
final class Trial {
    private static final int MOST_CALLS = 512;

    private record Told(ToLongFunction<MaskEdges> call, long answer) { }

    private final List<Told> told = new ArrayList<>();
    private MaskEdges object = new MaskEdges();
    private int calls;

    /** Another one that was told the same. */
    Trial again() {
        Trial other = new Trial();
        other.told.addAll(told);
        other.tellAllAgain();
        return other;
    }

    private void tellAllAgain() {
        if (told.size() >= MOST_CALLS) {
            throw new IllegalStateException("a test tells more calls than an object is used for");
        }
        object = new MaskEdges();
        for (Told each : told) {
            if (each.call.applyAsLong(object) != each.answer) {
                throw new IllegalStateException("the same calls gave another answer");
            }
        }
        calls = told.size();
    }

    private void useOneCall() {
        if (calls >= MOST_CALLS) {
            tellAllAgain();
        }
        calls++;
    }

    private long tell(ToLongFunction<MaskEdges> call) {
        useOneCall();
        long answer = call.applyAsLong(object);
        told.add(new Told(call, answer));
        return answer;
    }

    private long ask(ToLongFunction<MaskEdges> call) {
        useOneCall();
        return call.applyAsLong(object);
    }

    int polygon() {
        return (int) tell(MaskEdges::polygon);
    }

    boolean corner(int polygon, long x, long y) {
        return tell(m -> m.corner(polygon, x, y) ? 1 : 0) == 1;
    }

    int kernel(int weight, int width) {
        return (int) tell(m -> m.kernel(weight, width));
    }

    int cut(int length) {
        return (int) tell(m -> m.cut(length));
    }

    int run(int rounds, int threshold, int step, int limit) {
        return (int) tell(m -> m.run(rounds, threshold, step, limit));
    }

    int helper(int space, int width) {
        return (int) tell(m -> m.helper(space, width));
    }

    int shift(int rule, int v) {
        return (int) tell(m -> m.shift(rule, v));
    }

    int image(int x, int y) {
        return (int) ask(m -> m.image(x, y));
    }

    int error(int piece) {
        return (int) ask(m -> m.error(piece));
    }

    int moved(int piece) {
        return (int) ask(m -> m.moved(piece));
    }

    int worst(int round) {
        return (int) ask(m -> m.worst(round));
    }

    boolean prints(int bar, int dose) {
        return ask(m -> m.prints(bar, dose) ? 1 : 0) == 1;
    }

    int edge(int piece, int dose) {
        return (int) ask(m -> m.edge(piece, dose));
    }

    boolean alike(int a, int b) {
        return ask(m -> m.alike(a, b) ? 1 : 0) == 1;
    }

    boolean is(int x, int y, int what) {
        return ask(m -> m.is(x, y, what) ? 1 : 0) == 1;
    }
}
