import com.sun.management.ThreadMXBean;
import java.lang.management.ManagementFactory;
import java.lang.reflect.Array;
import java.lang.reflect.Field;
import java.lang.reflect.Modifier;
import java.util.Collections;
import java.util.IdentityHashMap;
import java.util.Set;

/** All calls of a run live in one room: an object is small, and its calls make nothing new. */
public final class RoomTest {
    private static final int MOST_OBJECTS = 100, MOST_ELEMENTS = 12_000;
    /** What the machine may take for itself; an object made by each step would be far more. */
    private static final long MOST_BYTES = 1_000;
    private static final Check check = new Check("RoomTest");

    private final Set<Object> seen = Collections.newSetFromMap(new IdentityHashMap<>());
    private long elements;

    private RoomTest() {
    }

    public static void main(String[] args) throws IllegalAccessException {
        RollingSync x = new RollingSync();
        oneObject("a new object", x);
        useAll(x);
        oneObject("a used object", x);
        callsMakeNothing();
        check.finish();
    }

    private static void oneObject(String what, RollingSync x) throws IllegalAccessException {
        RoomTest room = new RoomTest();
        room.count(x);
        int objects = room.seen.size();
        check.holds(what + " has " + objects + " objects and arrays", objects <= MOST_OBJECTS);
        check.holds(what + " has " + room.elements + " fields and elements",
            room.elements <= MOST_ELEMENTS);
    }

    private void count(Object object) throws IllegalAccessException {
        if (object == null || !seen.add(object)) {
            return;
        }
        if (object.getClass().isArray()) {
            elements += Array.getLength(object);
            if (object instanceof Object[] parts) {
                for (Object part : parts) {
                    count(part);
                }
            }
            return;
        }
        for (Field field : object.getClass().getDeclaredFields()) {
            if (!Modifier.isStatic(field.getModifiers())) {
                elements++;
                field.setAccessible(true);
                if (!field.getType().isPrimitive()) {
                    count(field.get(object));
                }
            }
        }
    }

    private static void callsMakeNothing() {
        ThreadMXBean threads = (ThreadMXBean) ManagementFactory.getThreadMXBean();
        long before = 0;
        long after = 0;
        // the first time the machine loads what it needs
        for (int time = 0; time < 3; time++) {
            RollingSync x = new RollingSync();
            before = threads.getCurrentThreadAllocatedBytes();
            useAll(x);
            after = threads.getCurrentThreadAllocatedBytes();
        }
        check.holds("the calls made " + (after - before) + " bytes", after - before <= MOST_BYTES);
    }

    /** Fewer than 512 calls, each of the face many times, with messages of each kind and losses. */
    private static void useAll(RollingSync x) {
        for (int i = 0; i < 16; i++) {
            int end = i & 1;
            int file = i >> 1;
            x.write(end, file, 0, 0x0102030405060708L * (i + 1), 8);
            x.again(end, file, 0, 480);
            x.write(end, file, 100, i, 1);
            x.trim(end, file, 480 - i);
            x.same(end, 7 - file);
            x.weak(end, file, i, 64);
        }
        for (int rule = 0; rule < 3; rule++) {
            x.drop(0, rule);
            x.write(0, 3 + rule, 50, rule - 1L, 8);
            x.begin(0, 8 >> rule, 1, rule);
            x.lose(2 + rule);
            x.lose(20);
            for (int i = 0; i < 25; i++) {
                x.step(8 * (1 + rule));
                x.state(i % 16);
                x.built(i);
            }
            x.cut();
        }
        for (int i = 0; i < 16; i++) {
            x.at(i & 1, i >> 1, i);
            x.size(i & 1, i >> 1);
            x.node(i & 1, i);
            x.sums(i, i & 1);
            x.sent(i & 1);
            x.lose(0);
            x.step(0);
            x.begin(2, 0, 0, 3);
        }
    }
}
