import java.lang.management.ManagementFactory;
import java.lang.reflect.Array;
import java.lang.reflect.Field;
import java.lang.reflect.Modifier;
import java.util.IdentityHashMap;
import java.util.Map;

/** One object is small, and calls make none: so any number of calls fits into the room. */
public final class RoomTests {
    private static final String TEXT = "unit 5 1 1 1 1;unit 5 2 1 1 1;turn 0 7;near;walk 5;many;far;walk 999999;row;";

    private RoomTests() {
    }

    public static void main(String[] args) throws IllegalAccessException {
        Map<Object, Boolean> seen = new IdentityHashMap<>();
        long[] room = new long[1];
        count(new DuelSamples(), seen, room);
        System.out.println("one object: " + seen.size() + " objects and arrays, " + room[0] + " fields and elements");
        Check.holds("few objects", seen.size() <= 40);
        Check.holds("few fields and elements", room[0] <= 2000);

        DuelSamples d = new DuelSamples();
        every(d);
        every(d);
        com.sun.management.ThreadMXBean threads =
                (com.sun.management.ThreadMXBean) ManagementFactory.getThreadMXBean();
        threads.getCurrentThreadAllocatedBytes();
        long before = threads.getCurrentThreadAllocatedBytes();
        long nothing = threads.getCurrentThreadAllocatedBytes() - before;
        before = threads.getCurrentThreadAllocatedBytes();
        for (int k = 0; k < 20; k++) {
            every(d);
        }
        long made = threads.getCurrentThreadAllocatedBytes() - before - nothing;
        System.out.println("20 times every call: " + made + " bytes made");
        Check.holds("calls make no objects", made < 20 * 16);
        Check.end("RoomTests");
    }

    private static void count(Object o, Map<Object, Boolean> seen, long[] room) throws IllegalAccessException {
        if (o == null || seen.put(o, true) != null) {
            return;
        }
        if (o.getClass().isArray()) {
            room[0] += Array.getLength(o);
            for (int i = 0; !o.getClass().getComponentType().isPrimitive() && i < Array.getLength(o); i++) {
                count(Array.get(o, i), seen, room);
            }
            return;
        }
        for (Field f : o.getClass().getDeclaredFields()) {
            if (!Modifier.isStatic(f.getModifiers())) {
                room[0]++;
                f.setAccessible(true);
                if (!f.getType().isPrimitive()) {
                    count(f.get(o), seen, room);
                }
            }
        }
    }

    private static void every(DuelSamples d) {
        d.empties();
        d.draw(7, 10);
        d.clear();
        for (int i = 0; i < TEXT.length(); i++) {
            d.type(TEXT.charAt(i));
        }
        d.says();
        for (int k = 0; k < 5; k++) {
            d.method(k);
            d.sets(k, 0, 5);
            d.walk(k);
            d.many();
            d.sizes(0);
            d.sizes(1);
            d.can(0, k);
            d.least();
            d.often(0, 0, 60);
            d.both(0, 1, 0, 60);
            d.best(0, 60, k);
            d.was(k);
            d.play(k, k);
            d.counted(k);
            d.inside(k);
            d.of(k, k);
            d.all(k);
            d.answer(k - 2);
            d.told(k);
        }
        d.spread();
        d.digest();
        d.unit(1, 2, 3, 4, 5);
    }
}
