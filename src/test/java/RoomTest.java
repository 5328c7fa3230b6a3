import java.lang.management.ManagementFactory;
import java.lang.reflect.Array;
import java.lang.reflect.Field;
import java.lang.reflect.Modifier;
import java.util.ArrayDeque;
import java.util.IdentityHashMap;

/** All calls of a run share one room: an object stays small, and its calls make nothing but their first questions' rows. */
final class RoomTest {
    private static final int OBJECTS_AT_MOST = 1000;
    private static final int ELEMENTS_AT_MOST = 60000;
    private static final int NEW_ELEMENTS_AT_MOST = 14000;
    private static final long BYTES_AT_MOST = 400000;

    private RoomTest() {
    }

    public static void main(String[] args) {
        sizeOfAnObject();
        whatTheCallsMake();
        Check.end();
    }

    private static void sizeOfAnObject() {
        RankHouse house = new RankHouse();
        long[] fresh = measure(house);
        Check.due("a new object stays small", 1, fresh[1] <= NEW_ELEMENTS_AT_MOST ? 1 : 0);
        busy(house, 512);
        long[] used = measure(house);
        Check.due("how many objects", 1, used[0] <= OBJECTS_AT_MOST ? 1 : 0);
        Check.due("how many fields and elements", 1, used[1] <= ELEMENTS_AT_MOST ? 1 : 0);
    }

    private static void whatTheCallsMake() {
        com.sun.management.ThreadMXBean bean = (com.sun.management.ThreadMXBean) ManagementFactory.getThreadMXBean();
        busy(new RankHouse(), 512);
        RankHouse house = new RankHouse();
        long before = bean.getCurrentThreadAllocatedBytes();
        busy(house, 512);
        long made = bean.getCurrentThreadAllocatedBytes() - before;
        Check.due("512 calls made " + made + " bytes, few", 1, made <= BYTES_AT_MOST ? 1 : 0);
    }

    private static void busy(RankHouse house, int calls) {
        for (int logger = 0; logger < 8; logger++) {
            house.fill(logger, 500, logger, 1103515245, 65535);
        }
        int question = 0;
        for (int call = 8; call < calls; call += 10) {
            for (int i = 0; i < 8; i++) {
                question = house.ask(i, i % 5, 300, 400);
            }
            house.run(1000);
            for (int i = 0; i < 8; i++) {
                house.forget(question - i);
            }
        }
    }

    /** Objects and arrays, and the fields and elements in them. */
    private static long[] measure(RankHouse house) {
        long[] sums = new long[2];
        IdentityHashMap<Object, Boolean> seen = new IdentityHashMap<>();
        ArrayDeque<Object> open = new ArrayDeque<>();
        open.add(house);
        while (!open.isEmpty()) {
            Object one = open.remove();
            if (seen.put(one, true) == null) {
                sums[0]++;
                sums[1] += one.getClass().isArray() ? elements(one, open) : fields(one, open);
            }
        }
        return sums;
    }

    private static int elements(Object array, ArrayDeque<Object> open) {
        int length = Array.getLength(array);
        if (!array.getClass().getComponentType().isPrimitive()) {
            for (int i = 0; i < length; i++) {
                addIfThere(Array.get(array, i), open);
            }
        }
        return length;
    }

    private static int fields(Object one, ArrayDeque<Object> open) {
        int many = 0;
        for (Field field : one.getClass().getDeclaredFields()) {
            if (Modifier.isStatic(field.getModifiers())) {
                continue;
            }
            many++;
            if (!field.getType().isPrimitive()) {
                addIfThere(valueOf(field, one), open);
            }
        }
        return many;
    }

    private static Object valueOf(Field field, Object one) {
        try {
            field.setAccessible(true);
            return field.get(one);
        } catch (IllegalAccessException e) {
            Check.fault("cannot look at " + field);
            return null;
        }
    }

    private static void addIfThere(Object one, ArrayDeque<Object> open) {
        if (one != null) {
            open.add(one);
        }
    }
}
