import java.lang.management.ManagementFactory;
import java.lang.reflect.Array;
import java.lang.reflect.Field;
import java.lang.reflect.Modifier;
import java.util.ArrayDeque;
import java.util.Collections;
import java.util.Deque;
import java.util.IdentityHashMap;
import java.util.Set;

/** Whether an object is small, and no call makes anything: all calls of one run live in one room. */
public final class RoomTest {
    private static final int MOST_OBJECTS = 30;
    private static final int MOST_ELEMENTS = 2500;
    private static final int ROUNDS = 2000;
    // less than one object of 16 bytes in each round would take
    private static final long MOST_BYTES = 16000;

    private static final Due due = new Due();

    public static void main(String[] args) throws IllegalAccessException {
        size(new MadeItSo());
        MadeItSo used = full();
        everyCall(used);
        size(used);
        made();
        due.end();
    }

    private static MadeItSo full() {
        MadeItSo x = new MadeItSo();
        for (int k = 0; k < 8; k++) {
            x.thing(true);
            for (int from = 0; from < k; from++) {
                x.arrow(from, k);
            }
        }
        for (int k = 0; k < 8; k++) {
            for (int row = 0; row < 1 << k; row++) {
                x.book(k, row, 1 + (row * 37 + k) % 99);
            }
        }
        return x;
    }

    private static void size(MadeItSo x) throws IllegalAccessException {
        Set<Object> known = Collections.newSetFromMap(new IdentityHashMap<>());
        Deque<Object> todo = new ArrayDeque<>();
        todo.add(x);
        long elements = 0;
        while (!todo.isEmpty()) {
            Object next = todo.remove();
            if (!known.add(next)) {
                continue;
            }
            if (next.getClass().isArray()) {
                due.yes("a row of numbers", next.getClass().getComponentType().isPrimitive());
                elements += Array.getLength(next);
                continue;
            }
            for (Field field : next.getClass().getDeclaredFields()) {
                if (!Modifier.isStatic(field.getModifiers())) {
                    elements++;
                    field.setAccessible(true);
                    if (!field.getType().isPrimitive() && field.get(next) != null) {
                        todo.add(field.get(next));
                    }
                }
            }
        }
        System.out.println("an object is " + known.size() + " objects with " + elements + " elements");
        due.yes("few objects: " + known.size(), known.size() <= MOST_OBJECTS);
        due.yes("few elements: " + elements, elements <= MOST_ELEMENTS);
    }

    private static void made() {
        com.sun.management.ThreadMXBean bean = (com.sun.management.ThreadMXBean) ManagementFactory.getThreadMXBean();
        MadeItSo x = full();
        everyCall(x);
        long id = Thread.currentThread().getId();
        bean.getThreadAllocatedBytes(id);
        long before = bean.getThreadAllocatedBytes(id);
        for (int round = 0; round < ROUNDS; round++) {
            everyCall(x);
        }
        long bytes = bean.getThreadAllocatedBytes(id) - before;
        due.yes("calls make nothing: " + bytes + " bytes", bytes <= MOST_BYTES);
    }

    private static long everyCall(MadeItSo x) {
        long sum = x.thing(true) + x.booked(7, 127) + x.told(0, 3) + x.weight(257, 514) + x.chance(257, 514, 1028);
        sum += x.above() + x.below() + x.least(0, 1) + x.leastAt(0, 1, 0) + x.agrees(0, 1, 252, 1, 1);
        sum += x.agrees(6, 7, 63, 1, 1) + x.alike() + x.otherwise(0, 7, 1) + x.draw(5, 257) + x.count(1);
        sum += x.bars(1, 128, 126) ? 1 : 0;
        sum += x.fit(3, 7, 7) ? 1 : 0;
        sum += x.fixed(0, 7) ? 1 : 0;
        sum += x.turn(0, 7) ? 1 : 0;
        sum += x.cut(0, 1) ? 1 : 0;
        sum += x.arrow(0, 1) ? 1 : 0;
        sum += x.book(1, 1, 3) ? 1 : 0;
        return sum;
    }
}
