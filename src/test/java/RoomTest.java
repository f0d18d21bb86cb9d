import com.sun.management.ThreadMXBean;
import java.lang.management.ManagementFactory;

/** All calls of one run live in one room: an object makes its rows when it is made, and no call makes anything more. */
public final class RoomTest {
    private static final int OBJECTS = 2000, MOST_BYTES_OF_AN_OBJECT = 4000;
    private static long answers = 0;

    public static void main(String[] args) {
        ThreadMXBean thread = (ThreadMXBean) ManagementFactory.getThreadMXBean();
        TriedHarder[] objects = new TriedHarder[OBJECTS];
        // Once through, so that what Java itself makes at first is not counted.
        callAll(new TriedHarder());
        thread.getCurrentThreadAllocatedBytes();

        long before = thread.getCurrentThreadAllocatedBytes();
        for (int i = 0; i < OBJECTS; i++) {
            objects[i] = new TriedHarder();
        }
        long made = thread.getCurrentThreadAllocatedBytes();
        for (int i = 0; i < OBJECTS; i++) {
            callAll(objects[i]);
        }
        long called = thread.getCurrentThreadAllocatedBytes();

        Run.holdTrue("bytes of " + OBJECTS + " objects: " + (made - before), made - before <= (long) OBJECTS * MOST_BYTES_OF_AN_OBJECT);
        // Less than a byte for each round of calls: what is left over is not theirs.
        Run.holdTrue("bytes of the calls on them: " + (called - made), called - made < OBJECTS);
        Run.holdTrue("the calls were made", answers != 0);
        Run.finish();
    }

    private static void callAll(TriedHarder x) {
        for (int u = 0; u < 13; u++) {
            answers += x.unit(u % 4, 1 + 7 * u, u % 4 - 1) + x.set(u, u % 3, 2 + 5 * u, u % 3) + x.told(u, u % 5) + x.step(u % 4, 1 + u);
        }
        for (int set = -1; set < 16; set++) {
            answers += x.count(set, set & 7) + x.risk(set, 10) + x.left(set, -1, 30, 1) + x.time(set, 0, 1, 3);
            answers += x.mean(set, 1, 50, 0) + x.rest(set, 2, 3, 50, 0) + x.runIn(set, -1, 100, 7);
        }
        answers += x.speed(1, 30) + x.says(500, 3, 2) + x.miss(50, 4) + x.law(10, 5, 2);
        answers += x.used(40) + x.fails(40) + x.end(12, 5, 80, 0) + x.end(12, 5, 80, 1);
        answers += x.rule(0, 3) + x.rule(1, 2) + x.plan(100, 10, 2) + x.clear() + x.drop();
    }
}
