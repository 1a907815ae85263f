import java.lang.management.ManagementFactory;
import java.lang.reflect.Array;
import java.lang.reflect.Field;
import java.lang.reflect.Modifier;

/** The room: what an object holds, and that its calls make nothing (but for the exceptions). */
public final class RoomTest {
    private static int objects = 0;
    private static int elements = 0;

    public static void main(String[] args) throws IllegalAccessException {
        count(new AmountPlanner());
        System.out.println("an object holds " + objects + " objects with " + elements + " fields and elements");
        Check.due("512 objects have room, as objects", true, () -> objects * 512 < 600_000);
        Check.due("512 objects have room, as elements", true, () -> elements * 512 < 7_300_000);
        AmountPlanner first = new AmountPlanner();
        AmountPlanner second = new AmountPlanner();
        // What the library makes for the first use of the bean is not counted.
        bytesMade();
        dearestCalls(first);
        long before = bytesMade();
        for (int k = 0; k < 20; k++) {
            dearestCalls(first);
            dearestCalls(second);
        }
        long made = bytesMade() - before;
        Check.due("what 800 calls make, in bytes: " + made, true, () -> made < 20_000);
        Check.close();
    }

    private static long bytesMade() {
        com.sun.management.ThreadMXBean bean =
                (com.sun.management.ThreadMXBean) ManagementFactory.getThreadMXBean();
        return bean.getCurrentThreadAllocatedBytes();
    }

    private static void count(Object object) throws IllegalAccessException {
        if (object == null) {
            return;
        }
        objects++;
        Class<?> type = object.getClass();
        if (type.isArray()) {
            elements += Array.getLength(object);
            for (int k = 0; !type.getComponentType().isPrimitive() && k < Array.getLength(object); k++) {
                count(Array.get(object, k));
            }
            return;
        }
        for (Field field : type.getDeclaredFields()) {
            if (!Modifier.isStatic(field.getModifiers())) {
                elements++;
                field.setAccessible(true);
                if (!field.getType().isPrimitive()) {
                    count(field.get(object));
                }
            }
        }
    }

    /** Twenty calls. */
    private static void dearestCalls(AmountPlanner x) {
        x.start(4);
        for (int j = 0; j < 4; j++) {
            x.amount(j, j, j + 8, true);
            x.cost(j, j - 3);
        }
        x.limit(2, 4, 6, 8, 99);
        x.limit(-2, -4, -6, -8, -99);
        x.solve(false);
        x.prove();
        x.drop(1);
        x.solve(false);
        x.prove();
        x.solve(true);
        x.end(0, 1, 1, 1, 1, 1, 1, 1);
        x.sound(0, 1);
        x.keeps(1, 1, 1, 1, 1);
    }
}
