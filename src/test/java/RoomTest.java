import com.sun.management.ThreadMXBean;
import java.lang.management.ManagementFactory;

/** All that a run makes lives in one room: an object is small, and its calls make nothing. */
final class RoomTest {
    private static final long MOST_BYTES_OF_AN_OBJECT = 20_000;
    private static final long MOST_BYTES_OF_CALLS = 2_000;
    private static final int OBJECTS = 1000;

    public static void main(String[] args) {
        Checks checks = new Checks();
        ThreadMXBean threads = (ThreadMXBean) ManagementFactory.getThreadMXBean();
        long me = Thread.currentThread().getId();
        MaskEdges[] objects = new MaskEdges[OBJECTS];
        useAll(new MaskEdges());
        long start = threads.getThreadAllocatedBytes(me);
        for (int i = 0; i < OBJECTS; i++) {
            objects[i] = new MaskEdges();
        }
        long made = threads.getThreadAllocatedBytes(me);
        long each = (made - start) / OBJECTS;
        checks.due("an object of " + each + " bytes is small", each <= MOST_BYTES_OF_AN_OBJECT, true);

        made = threads.getThreadAllocatedBytes(me);
        useAll(objects[0]);
        long used = threads.getThreadAllocatedBytes(me) - made;
        checks.due("calls that make " + used + " bytes make nothing", used <= MOST_BYTES_OF_CALLS, true);
        checks.finish();
    }

    private static void useAll(MaskEdges m) {
        m.polygon();
        m.corner(0, 10, 10);
        m.corner(0, 40, 10);
        m.corner(0, 40, 40);
        m.corner(0, 10, 40);
        m.corner(0, 10, 10);
        m.kernel(2, 3);
        m.kernel(-1, 5);
        for (int i = 1; i <= 25; i++) {
            m.cut(i);
            m.helper(1 + i % 8, 1);
            m.shift(i % 4, i % 6);
            m.run(20, 10 * i, 1 + i % 4, 1 + i % 6);
            m.image(i, i);
            m.error(i);
            m.edge(i, 50);
            m.moved(i);
            m.worst(i);
            m.prints(i, 100);
            m.alike(i, 0);
            m.is(i, i, 2);
        }
    }
}
