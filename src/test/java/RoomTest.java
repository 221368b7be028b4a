import java.lang.management.ManagementFactory;
import java.lang.reflect.Array;
import java.lang.reflect.Field;
import java.lang.reflect.Modifier;
import java.util.ArrayDeque;
import java.util.Collections;
import java.util.Deque;
import java.util.IdentityHashMap;
import java.util.Set;

/** An object has all that it needs when it has been made: its calls make nothing, and its room stays as small. */
public final class RoomTest extends Answers {
    private static final int MOST_OBJECTS = 200, MOST_ELEMENTS = 350000;
    /** Far below what one object for each call would be. */
    private static final long NEARLY_NOTHING = 2000;

    private static int objects, elements;

    public static void main(String[] args) throws IllegalAccessException {
        BroadcastPlant x = new BroadcastPlant(40, -1);
        measure(x);
        int objectsBefore = objects, elementsBefore = elements;
        due("at most so many objects", objects <= MOST_OBJECTS ? 1 : 0, 1);
        due("at most so many elements", elements <= MOST_ELEMENTS ? 1 : 0, 1);
        var threads = (com.sun.management.ThreadMXBean) ManagementFactory.getThreadMXBean();
        dearRun(new BroadcastPlant(40, -1));
        long before = threads.getThreadAllocatedBytes(Thread.currentThread().getId());
        int calls = dearRun(x);
        long made = threads.getThreadAllocatedBytes(Thread.currentThread().getId()) - before;
        due("calls of an object's life", calls, 512);
        due("frames that were run", x.told(0), 3000);
        due("bytes made by the calls are nearly none", made < NEARLY_NOTHING ? 1 : 0, 1);
        measure(x);
        due("objects behind the run", objects, objectsBefore);
        due("elements behind the run", elements, elementsBefore);
        System.out.println(objects + " objects, " + elements + " fields and elements, " + made + " bytes made by " + calls + " calls");
        finish();
    }

    /** The 512 calls of an object, with as much of everything as these allow; how many there were. */
    private static int dearRun(BroadcastPlant x) {
        int calls = 0;
        for (int i = 0; i < 17; i++, calls++) x.clip(1 + i, 100);
        for (int i = 0; i < 7; i++, calls++) x.fill(i);
        for (int i = 0; i < 7; i++, calls++) x.local(1 + i);
        for (int c = 0; c < 3; c++, calls += 2) {
            x.set(c, 16, 3000, 100);
            x.buffer(c, 20000);
        }
        x.total(9000);
        x.lines(8, 8);
        calls += 2;
        for (int i = 0; i < 90; i++, calls++) x.event(i % 3, i % 2 == 0 ? BREAK : FOLLOW, 0, i % 16, 5 + i);
        for (int i = 0; i < 100; i++, calls++) x.lose(i % 5, 70 * i);
        for (int i = 0; i < 100; i++, calls++) x.alter(77 * i, i, 255);
        for (int i = 0; i < 30; i++, calls += 4) {
            x.service(i % 3, i % 2 == 0);
            x.take(i % 3);
            x.fail(i % 3, i % 2, 3);
            x.tick(100);
        }
        for (int c = 0; c < 3; c++, calls += 4) {
            x.row(c, 0, 2);
            x.unit(c, 2999, 4);
            x.shown(c, 0, 2);
            x.alarm(c, 0, 2);
        }
        for (int i = 0; calls < 512; i++, calls++) x.sent(119999 - i, i);
        return calls;
    }

    /** Counts what is held by an object: itself, its arrays and objects, and the fields and elements of all these. */
    private static void measure(Object root) throws IllegalAccessException {
        objects = 0;
        elements = 0;
        Set<Object> seen = Collections.newSetFromMap(new IdentityHashMap<>());
        Deque<Object> open = new ArrayDeque<>();
        open.add(root);
        while (!open.isEmpty()) {
            Object o = open.remove();
            if (!seen.add(o)) continue;
            objects++;
            if (o.getClass().isArray()) measureArray(o, open);
            else measureFields(o, open);
        }
    }

    private static void measureArray(Object array, Deque<Object> open) {
        elements += Array.getLength(array);
        if (array.getClass().getComponentType().isPrimitive()) return;
        for (Object o : (Object[]) array) if (o != null) open.add(o);
    }

    private static void measureFields(Object o, Deque<Object> open) throws IllegalAccessException {
        for (Field f : o.getClass().getDeclaredFields()) {
            if (Modifier.isStatic(f.getModifiers())) continue;
            elements++;
            f.setAccessible(true);
            if (!f.getType().isPrimitive() && f.get(o) != null) open.add(f.get(o));
        }
    }
}
