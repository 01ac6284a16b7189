import java.lang.management.ManagementFactory;
import java.lang.reflect.Array;
import java.lang.reflect.Field;
import java.lang.reflect.Modifier;
import java.util.IdentityHashMap;
import java.util.Map;

/**
 * A new object takes a small part of the room, and 512 of the dearest calls take none of it: they
 * make no object at all.
 */
public final class RoomTest {
    private static final int CALLS = 512;
    /** 512 objects in one run would still fit into 7.3 million fields and elements. */
    private static final int MOST_ELEMENTS = 14_000;
    private static final int MOST_OBJECTS = 100;
    /** What measuring itself may take. */
    private static final long MOST_BYTES = 4096;

    private static int objects = 0;
    private static long elements = 0;

    public static void main(String[] args) throws Exception {
        boolean fits = newObjectIsSmall();
        System.gc();
        boolean none = callsMakeNothing();
        if (!fits || !none) {
            System.exit(1);
        }
    }

    private static boolean newObjectIsSmall() throws Exception {
        count(new ShoeTable(), new IdentityHashMap<>());
        System.out.println("a new object: " + objects + " objects and arrays, " + elements + " fields and elements");
        return objects <= MOST_OBJECTS && elements <= MOST_ELEMENTS;
    }

    private static void count(Object o, Map<Object, Boolean> seen) throws Exception {
        if (o == null || seen.put(o, true) != null) {
            return;
        }
        objects++;
        if (o.getClass().isArray()) {
            int n = Array.getLength(o);
            elements += n;
            for (int i = 0; i < n && !o.getClass().getComponentType().isPrimitive(); i++) {
                count(Array.get(o, i), seen);
            }
            return;
        }
        for (Field f : o.getClass().getDeclaredFields()) {
            if (!Modifier.isStatic(f.getModifiers())) {
                elements++;
                f.setAccessible(true);
                if (!f.getType().isPrimitive()) {
                    count(f.get(o), seen);
                }
            }
        }
    }

    private static ShoeTable wideTable() {
        ShoeTable x = new ShoeTable();
        int[] counts = {0, 5, 4, 2, 1, 1, 1, 1, 0, 0, 0};
        for (int r = 1; r <= 10; r++) {
            x.shoe(r, counts[r]);
        }
        x.rule(1, 21);
        x.rule(2, 1);
        x.fresh();
        x.take(1, 0);
        x.take(1, 0);
        x.take(1, 1);
        return x;
    }

    private static ShoeTable dealTable() {
        ShoeTable x = new ShoeTable();
        for (int r = 1; r <= 8; r++) {
            x.shoe(r, 1);
        }
        x.fresh();
        return x;
    }

    private static long allCalls(ShoeTable x, ShoeTable y) {
        long sum = 0;
        for (int i = 0; i < CALLS / 8; i++) {
            sum += x.best() + x.moved(2, 0) + x.worth(1, 1) + x.worth(3, 0) + x.chance(20, 0);
            sum += y.deal(0) + y.known(3, 0) + x.there(1) + x.told(1) + y.left(0) + y.mark(1, i % 4);
        }
        return sum;
    }

    private static boolean callsMakeNothing() {
        com.sun.management.ThreadMXBean threads =
            (com.sun.management.ThreadMXBean) ManagementFactory.getThreadMXBean();
        allCalls(wideTable(), dealTable());
        ShoeTable x = wideTable();
        ShoeTable y = dealTable();
        long before = threads.getCurrentThreadAllocatedBytes();
        long sum = allCalls(x, y);
        long bytes = threads.getCurrentThreadAllocatedBytes() - before;
        System.out.println("512 dear calls made " + bytes + " bytes (sum of the answers " + sum + ")");
        return bytes <= MOST_BYTES;
    }
}
