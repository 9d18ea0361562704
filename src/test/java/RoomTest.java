import java.lang.management.ManagementFactory;
import java.lang.reflect.Array;
import java.lang.reflect.Field;
import java.lang.reflect.Modifier;
import java.util.ArrayDeque;
import java.util.Collections;
import java.util.Deque;
import java.util.IdentityHashMap;
import java.util.Set;

/** All calls of a run live in one room: a new object is small, and no call makes anything. */
public final class RoomTest {
    private static final int MOST_OBJECTS = 120;
    private static final int MOST_ELEMENTS = 3000;

    private RoomTest() {
    }

    public static void main(String[] args) throws Exception {
        SmokeRoofs x = new SmokeRoofs();
        measure(x);
        useAll(x);
        com.sun.management.ThreadMXBean threads =
            (com.sun.management.ThreadMXBean) ManagementFactory.getThreadMXBean();
        long id = Thread.currentThread().getId();
        threads.getThreadAllocatedBytes(id);
        long before = threads.getThreadAllocatedBytes(id);
        int sum = 0;
        for (int i = 0; i < 20; i++) {
            sum += useAll(x);
        }
        long made = threads.getThreadAllocatedBytes(id) - before;
        // The measuring itself makes a little; one small object a call would be some 30,000 bytes.
        Check.holds("20 rounds made " + made + " bytes (" + sum + ")", made < 4000);
        Check.end();
    }

    private static int useAll(SmokeRoofs x) {
        int sum = x.roof(1, 1) + x.wind(0, 2) + x.chimney(2, 0, 0) + x.of(0, 9) + x.change(0, 3, 2) + x.book(0);
        sum += x.strike() + x.air(-1, -1) + x.settled(-1, -1) + x.parts(0, 2) + x.thickest() + x.touched(0);
        sum += x.hours(2) + x.ahead(72, 3) + x.clear(0) + x.reaches(0, 1) + x.place(0, 24) + x.highFor(0, 24);
        sum += x.gains(0, 24) + x.when(0, 1, 24) + x.build(1, 24) + x.washing(1, 12) + x.worst(1, 24) + x.over(1);
        sum += x.canHave(0, 0, 1, 12) + x.clocks(0, 1, 12) + x.weather(24) + x.seed(3);
        sum += x.feed(0x77696e64, 4) + x.feed(0x20332034, 4) + x.text() + x.feed(1, 1) + x.wipe();
        sum += x.feed(0x726f6f66, 4) + x.text() + x.hold(0, 0) + x.as(0, 0) + x.sheet(0, 8, 40) + x.write(0, 1, 1);
        sum += x.copy(0, 0, 0, 1, 9) + x.load(0) + x.judge(0) + x.image() + x.undo() + x.tear() + x.count(3);
        return sum + x.status(-1);
    }

    private static void measure(SmokeRoofs x) throws Exception {
        Set<Object> seen = Collections.newSetFromMap(new IdentityHashMap<>());
        Deque<Object> open = new ArrayDeque<>();
        open.add(x);
        int elements = 0;
        while (!open.isEmpty()) {
            Object o = open.remove();
            if (seen.add(o)) {
                elements += o.getClass().isArray() ? Array.getLength(o) : 0;
                elements += o.getClass().isArray() ? addParts(o, open) : addFields(o, open);
            }
        }
        Check.holds(seen.size() + " objects", seen.size() <= MOST_OBJECTS);
        Check.holds(elements + " elements", elements <= MOST_ELEMENTS);
        System.out.println("a new object: " + seen.size() + " objects, " + elements + " fields and elements");
    }

    private static int addParts(Object array, Deque<Object> open) {
        if (array instanceof Object[] parts) {
            for (Object part : parts) {
                open.add(part);
            }
        }
        return 0;
    }

    private static int addFields(Object o, Deque<Object> open) throws Exception {
        int fields = 0;
        for (Field f : o.getClass().getDeclaredFields()) {
            if (!Modifier.isStatic(f.getModifiers())) {
                fields++;
                f.setAccessible(true);
                if (!f.getType().isPrimitive()) {
                    open.add(f.get(o));
                }
            }
        }
        return fields;
    }
}
