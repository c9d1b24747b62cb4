import java.lang.management.ManagementFactory;
import java.lang.reflect.Array;
import java.lang.reflect.Field;
import java.lang.reflect.Modifier;
import java.util.Collections;
import java.util.IdentityHashMap;
import java.util.Set;

/** All calls of a run live in one room: an object is small, and no call makes another. */
public final class RoomTest {
    private static final int MOST_OBJECTS = 300;
    private static final int MOST_ELEMENTS = 5000;
    private static long sum = 0;

    public static void main(String[] args) throws IllegalAccessException {
        TakenUp x = made();
        boolean isWrong = false;
        long[] held = held(x);
        System.out.println("an object holds " + held[0] + " objects and arrays, " + held[1] + " fields and elements");
        if (held[0] > MOST_OBJECTS || held[1] > MOST_ELEMENTS) {
            isWrong = true;
            System.out.println("that is too much");
        }
        com.sun.management.ThreadMXBean threads = (com.sun.management.ThreadMXBean) ManagementFactory.getThreadMXBean();
        long id = Thread.currentThread().getId();
        calls(x);
        long before = threads.getThreadAllocatedBytes(id);
        for (int i = 0; i < 20; i++) {
            calls(x);
        }
        long bytes = threads.getThreadAllocatedBytes(id) - before;
        System.out.println("20 rounds of all calls took " + bytes + " bytes (" + sum + ")");
        // what the measuring itself takes is below this, one object a round would not be by 60 calls of them
        if (bytes > 400) {
            isWrong = true;
            System.out.println("a call makes objects");
        }
        if (isWrong) {
            System.exit(1);
        }
    }

    private static TakenUp made() {
        TakenUp x = new TakenUp();
        for (int i = 0; i < 4; i++) {
            x.worker(i % 2);
            for (int j = 0; j < 8; j++) {
                x.step(i, 9, j);
            }
        }
        for (int i = 0; i < 8; i++) {
            x.rest(9 * i, i % 4, 300, 3);
        }
        x.sheet(0, 8, 24);
        x.sheet(1, 32, 4);
        Due.text(x, 0, "(d+t*n<m)|!9&d");
        Due.text(x, 1, "d/(h+1)+2");
        return x;
    }

    private static void calls(TakenUp x) {
        sum += x.worker(0) + x.workerIs(0, 0) + x.setWorker(0, 0, 5) + x.step(0, 0, 0) + x.stepIs(0, 0, 0);
        sum += x.rest(0, 0, 0, 1) + x.restIs(0, 7) + x.as(0, 0) + x.setRest(0, 3, 300) + x.quiet(0, 5);
        sum += x.feed(0x2B643264L, 3) + x.text(0) + x.feed(0x6464L, 2) + x.text(1) + x.untell(0) + x.feed(0x2B64L, 1) + x.text(0);
        sum += x.image() + x.minutes(3) + x.loose(3) + x.seed(4) + x.then(600, 0, 7) + x.waits(600) + x.cost(0, 600);
        sum += x.refuse(0, 600) + x.best(0, 120) + x.heap(999) + x.odds(0, 600, 99, 0) + x.voice(1, 3, 8) + x.body(0);
        sum += x.sheet(2, 16, 24) + x.put(0, 0, 4) + x.move(0, 0, 0, 5, 7) + x.steps(1, 0) + x.off(0, 0) + x.fits(0, 0);
        sum += x.tell(4) + x.check() + x.count(10) + x.told(1) + x.restore();
    }

    private static long[] held(Object root) throws IllegalAccessException {
        Set<Object> seen = Collections.newSetFromMap(new IdentityHashMap<>());
        long[] held = new long[2];
        hold(root, seen, held);
        return held;
    }

    private static void hold(Object o, Set<Object> seen, long[] held) throws IllegalAccessException {
        if (o == null || o instanceof String || !seen.add(o)) {
            return;
        }
        held[0]++;
        if (o.getClass().isArray()) {
            held[1] += Array.getLength(o);
            for (int i = 0; i < Array.getLength(o) && !o.getClass().getComponentType().isPrimitive(); i++) {
                hold(Array.get(o, i), seen, held);
            }
            return;
        }
        for (Field field : o.getClass().getDeclaredFields()) {
            if (!Modifier.isStatic(field.getModifiers())) {
                held[1]++;
                field.setAccessible(true);
                if (!field.getType().isPrimitive()) {
                    hold(field.get(o), seen, held);
                }
            }
        }
    }
}
