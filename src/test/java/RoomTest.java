import com.sun.management.ThreadMXBean;
import java.lang.management.ManagementFactory;
import java.lang.reflect.Array;
import java.lang.reflect.Field;
import java.lang.reflect.Modifier;
import java.util.Collections;
import java.util.IdentityHashMap;
import java.util.Set;

/** All calls of a run live in one room: an object takes little of it, and calls take nothing more. */
public final class RoomTest extends Asking {
    private static final ThreadMXBean THREADS = (ThreadMXBean) ManagementFactory.getThreadMXBean();
    private static final int ROUNDS = 5;

    private static int objects;
    private static int elements;

    public static void main(String[] args) throws Exception {
        says("what an object takes");
        enter(new TunnelHearsay(), Collections.newSetFromMap(new IdentityHashMap<>()));
        due("objects and arrays, at most 100", objects <= 100 ? 1 : objects, 1);
        due("fields and elements, at most 2000", elements <= 2000 ? 1 : elements, 1);

        says("what some 500 calls take in bytes");
        due("nothing", leastTaken(), 0);
        end();
    }

    /** The machine itself takes a little now and then, but what calls take is taken in each round. */
    private static long leastTaken() {
        long least = Long.MAX_VALUE;
        for (int round = 0; round < ROUNDS; round++) {
            TunnelHearsay x = busy();
            long before = THREADS.getCurrentThreadAllocatedBytes();
            for (int i = 0; i < 10; i++) {
                callAll(x);
            }
            least = Math.min(least, THREADS.getCurrentThreadAllocatedBytes() - before);
        }
        return least;
    }

    private static void enter(Object whom, Set<Object> seen) throws IllegalAccessException {
        if (whom == null || !seen.add(whom)) {
            return;
        }
        objects++;
        Class<?> type = whom.getClass();
        if (type.isArray()) {
            elements += Array.getLength(whom);
            for (int i = 0; i < Array.getLength(whom) && !type.getComponentType().isPrimitive(); i++) {
                enter(Array.get(whom, i), seen);
            }
            return;
        }
        for (Field field : type.getDeclaredFields()) {
            if (!Modifier.isStatic(field.getModifiers())) {
                elements++;
                field.setAccessible(true);
                if (!field.getType().isPrimitive()) {
                    enter(field.get(whom), seen);
                }
            }
        }
    }

    /** Eight engineers, both texts, a sheet of 40 numbers. */
    private static TunnelHearsay busy() {
        TunnelHearsay x = fresh();
        for (int i = 0; i < 8; i++) {
            x.engineer(9 * i, i % 2);
        }
        give(x, 0, "e+d/4");
        give(x, 1, "p-r/3");
        x.sheet(0, 8, 40);
        x.sheet(1, 8, 40);
        return x;
    }

    private static void callAll(TunnelHearsay x) {
        hill(x);
        thought(x);
        rest(x);
    }

    private static void hill(TunnelHearsay x) {
        x.rock(9, 4);
        x.dig(9, 1);
        x.ofCell(9, 2);
        x.head(0, 0, 24);
        x.ofHead(0, 4);
        x.delay(3);
        x.engineer(0, 0);
        x.ofEngineer(4, 4);
        x.change(2, 1);
        x.become(2, 24);
        x.as(5, 0);
        x.feed(0x2965L, 1);
        x.text(0);
        x.law(0, 1, 2, 3);
        x.years(3);
        x.loose(3);
    }

    private static void thought(TunnelHearsay x) {
        x.then(60, 0, 0);
        x.meets();
        x.apart(60);
        x.delayFor(60);
        x.powerFor(0, 60, 0);
        x.needless(60);
        x.heard(0, 0, 1);
        x.which(0, 3);
        x.join(0, 63);
        x.steps(24, 25);
        x.hand(24, 0, 200);
        x.parts();
        x.odds(30, 3, 1);
    }

    private static void rest(TunnelHearsay x) {
        x.seed(7);
        x.voice(6, 3, 5);
        x.trace(1);
        x.sheet(2, 32, 40);
        x.put(0, 3, 5);
        x.move(0, 0, 1, 2, 30);
        x.rocks(2);
        x.judge(2);
        x.image();
        x.restore();
        x.tell(3);
        x.check();
        x.count(5);
        x.told(1);
        // Refused ones, too: an error is counted, nothing is made for it.
        x.rock(64, 0);
        x.restore();
        x.told(9);
        x.text(2);
    }
}
