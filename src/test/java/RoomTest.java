import com.sun.management.ThreadMXBean;
import java.lang.management.ManagementFactory;
import java.lang.reflect.Array;
import java.lang.reflect.Field;
import java.lang.reflect.Modifier;
import java.util.IdentityHashMap;
import java.util.Map;

/** What an object makes is kept and used again: so all that it ever makes can be counted after its calls. */
public final class RoomTest {
    // One room has some 600,000 objects and 7.3 million fields and elements for all objects of a run.
    private static final int MOST_OBJECTS = 200, MOST_CELLS = 6000;
    private static final int CALLS = 512, CALLS_A_TURN = 12;
    private static final long B_FIVE = Made.eightBytes("b5", 0), A_ONE_B_TWO_TWICE = Made.eightBytes("a1b2b2", 0);

    private final Map<Object, Boolean> seen = new IdentityHashMap<>();
    private long cells;

    public static void main(String[] args) throws ReflectiveOperationException {
        Due due = new Due("RoomTest");
        FloorCurves x = new FloorCurves();
        int calls = askForEverything(x);
        RoomTest first = countOf(x);
        due.is("at most " + MOST_OBJECTS + " objects, there are " + first.seen.size(), first.seen.size() <= MOST_OBJECTS ? 1 : 0, 1);
        due.is("at most " + MOST_CELLS + " cells, there are " + first.cells, first.cells <= MOST_CELLS ? 1 : 0, 1);
        due.is("bytes made by later calls", bytesOf(x, calls), 0);
        RoomTest last = countOf(x);
        due.is("objects after all calls", last.seen.size(), first.seen.size());
        due.is("cells after all calls", last.cells, first.cells);
        due.is("objects that are not those of before", unlike(first, last), 0);
        due.close();
    }

    /** All that is made when it is first asked for. */
    private static int askForEverything(FloorCurves x) {
        for (int d = 1; d <= 4; d++) {
            x.count(d, 0);
        }
        x.feed(B_FIVE);
        x.text();
        x.tangent(10);
        for (int k = 0; k < 4; k++) {
            x.sheet(k, k % 3, 60);
        }
        return 11;
    }

    /** Nothing but the calls themselves runs between the two readings. */
    private static long bytesOf(FloorCurves x, int callsBefore) {
        ThreadMXBean counter = (ThreadMXBean) ManagementFactory.getThreadMXBean();
        counter.getCurrentThreadAllocatedBytes();
        long before = counter.getCurrentThreadAllocatedBytes();
        for (int calls = callsBefore; calls + CALLS_A_TURN <= CALLS; calls += CALLS_A_TURN) {
            callAgain(x, calls);
        }
        return counter.getCurrentThreadAllocatedBytes() - before;
    }

    private static void callAgain(FloorCurves x, int turn) {
        x.sheet(turn % 4, turn % 3, turn % 61);
        x.take(4, turn % 7, turn % 5);
        x.markings(x.many(0) - 1);
        x.spread(x.many(0) - 1, 0);
        x.spreadAll(1 + turn % 4, turn % 7, 1);
        x.feed(A_ONE_B_TWO_TWICE);
        x.text();
        x.tangent(turn % 11);
        x.rational(7);
        x.drop();
    }

    private static int unlike(RoomTest first, RoomTest last) {
        int count = 0;
        for (Object object : last.seen.keySet()) {
            count += first.seen.containsKey(object) ? 0 : 1;
        }
        return count;
    }

    private static RoomTest countOf(Object root) throws ReflectiveOperationException {
        RoomTest room = new RoomTest();
        room.walk(root);
        return room;
    }

    private void walk(Object object) throws ReflectiveOperationException {
        if (object == null || seen.put(object, true) != null) {
            return;
        }
        if (object.getClass().isArray()) {
            walkArray(object);
            return;
        }
        for (Field field : object.getClass().getDeclaredFields()) {
            if (!Modifier.isStatic(field.getModifiers())) {
                cells++;
                field.setAccessible(true);
                if (!field.getType().isPrimitive()) {
                    walk(field.get(object));
                }
            }
        }
    }

    private void walkArray(Object array) throws ReflectiveOperationException {
        cells += Array.getLength(array);
        if (!array.getClass().getComponentType().isPrimitive()) {
            for (int i = 0; i < Array.getLength(array); i++) {
                walk(Array.get(array, i));
            }
        }
    }
}
