import java.lang.management.ManagementFactory;
import java.lang.reflect.Array;
import java.lang.reflect.Field;
import java.lang.reflect.Modifier;
import java.util.Collections;
import java.util.IdentityHashMap;
import java.util.Set;

/** What a new object takes of the room that all calls of a run share, and that calls take nothing more. */
public final class RoomTest {
    private static final int MOST_OBJECTS = 200, MOST_ELEMENTS = 5000, MOST_BYTES_BY_CALLS = 4096;

    private static int objects = 0;
    private static int elements = 0;

    public static void main(String[] args) throws IllegalAccessException {
        BetweenThisAndThat x = new BetweenThisAndThat();
        measure(x, Collections.newSetFromMap(new IdentityHashMap<>()));
        System.out.println("a new object: " + objects + " objects and arrays, " + elements + " fields and elements");
        com.sun.management.ThreadMXBean threads =
                (com.sun.management.ThreadMXBean) ManagementFactory.getThreadMXBean();
        long me = Thread.currentThread().getId();
        dearCalls(new BetweenThisAndThat());
        long before = threads.getThreadAllocatedBytes(me);
        dearCalls(x);
        long taken = threads.getThreadAllocatedBytes(me) - before;
        System.out.println("512 dear calls: " + taken + " bytes more");
        if (objects > MOST_OBJECTS || elements > MOST_ELEMENTS || taken > MOST_BYTES_BY_CALLS) {
            System.out.println("more than told");
            System.exit(1);
        }
    }

    private static void measure(Object each, Set<Object> seen) throws IllegalAccessException {
        if (each == null || each instanceof String || !seen.add(each)) {
            return;
        }
        objects++;
        if (each.getClass().isArray()) {
            int length = Array.getLength(each);
            elements += length;
            for (int i = 0; i < length && !each.getClass().getComponentType().isPrimitive(); i++) {
                measure(Array.get(each, i), seen);
            }
            return;
        }
        for (Field field : each.getClass().getDeclaredFields()) {
            if (!Modifier.isStatic(field.getModifiers())) {
                elements++;
                field.setAccessible(true);
                if (!field.getType().isPrimitive()) {
                    measure(field.get(each), seen);
                }
            }
        }
    }

    /** Says and links all it can, reads texts, and asks what is dear. */
    private static void dearCalls(BetweenThisAndThat x) {
        x.sheet(0, 2, 40);
        for (int i = 0; i < 40; i++) {
            x.cell(0, i, i % 4 == 3 ? 900 : i % 4 == 0 ? i / 4 * 6 : i % 4);
        }
        for (int round = 0; round < 16; round++) {
            x.image();
            x.sayingsBy(0, 2, 0, 10);
            x.link(round % 5, 5, -round, 900);
            x.feed(5, 'r', 'e', 'c', 'k', 'o');
            x.feed(5, 'n', 's', '-', '(', 'a');
            x.text();
            x.wrong(0);
            x.blame();
            for (int t = 0; t < 4; t++) {
                x.buy(0, 999, t % 2);
                x.worth(0, t);
                x.exact(0, t, 50);
                x.odds(t, 40, 0);
                x.less(t, 5, 1);
            }
            x.film(1, 0);
            x.judge(1);
            x.back();
        }
    }
}
