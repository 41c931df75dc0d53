import java.lang.management.ManagementFactory;
import java.lang.reflect.Array;
import java.lang.reflect.Field;
import java.lang.reflect.Modifier;
import java.util.ArrayDeque;
import java.util.Collections;
import java.util.Deque;
import java.util.IdentityHashMap;
import java.util.Set;

/** All that a room makes is counted: it stays small, and calls make nothing more. */
public final class SpaceTest {
    private static final Check CHECK = new Check("SpaceTest");

    private static void atMost(String what, long got, long most) {
        CHECK.due(what + " (" + got + ", at most " + most + ")", got <= most ? 1 : 0, 1);
    }

    /** Objects and arrays, and the fields and elements in them. */
    private static long[] size(Object root) throws IllegalAccessException {
        Set<Object> known = Collections.newSetFromMap(new IdentityHashMap<>());
        Deque<Object> open = new ArrayDeque<>();
        open.add(root);
        long parts = 0;
        while (!open.isEmpty()) {
            Object o = open.pop();
            if (!known.add(o)) {
                continue;
            }
            if (o.getClass().isArray()) {
                parts += Array.getLength(o);
                for (int i = 0; o instanceof Object[] && i < Array.getLength(o); i++) {
                    open.add(Array.get(o, i));
                }
                continue;
            }
            for (Field f : o.getClass().getDeclaredFields()) {
                if (Modifier.isStatic(f.getModifiers())) {
                    continue;
                }
                parts++;
                f.setAccessible(true);
                if (!f.getType().isPrimitive() && f.get(o) != null) {
                    open.add(f.get(o));
                }
            }
        }
        return new long[] {known.size(), parts};
    }

    /** Every call of the face, with the dearest arguments: 37 calls. */
    private static long useAll(ConvoyRoom r, int i) {
        long sum = r.turn(i % 4, i * 7 % 60, i % 9 - 4) + r.ofTurn(0, 0, 0) + r.course(0, i);
        sum += r.ground(1, 600, 0) + r.steer(i % 4) + r.ship(i, -i, 20, i % 6);
        sum += r.miss(i % 9, i % 10, 0);
        sum += r.fog(i, 600 - i) + r.place(0, 600, 1) + r.nearest(600, 0) + r.close(600, 99999);
        sum += r.centre(20) + r.lurk(5000, i, 20, 200000) + r.comes(1) + r.gets(0, 600);
        sum += r.worst(600, 1, 2, 3, 4, 0) + r.mix(600, 12, 4) + r.post(i, 0, 40);
        sum += r.seen(1, 50) + r.best(Math.min(i, 5), 50) + r.danger(i % 12, i * 5 % 12, i % 100);
        sum += r.route(0, 143, 40, 40) + r.apart(11, 132, 40, 40, 1) + r.apart(11, 132, 40, 12, 1);
        sum += r.cell(0, 40) + r.word(1, 100) + r.sight(i, i, i) + r.told(0, 0, 20, 0) + r.about(6);
        sum += r.route(0, 0, 41, 0) + r.turn(9, 9, 9) + r.place(9, 9, 9);
        return sum + r.clear(3) + (i % 13 == 0 ? r.forget() : 0);
    }

    private static long allocated() {
        return ((com.sun.management.ThreadMXBean) ManagementFactory.getThreadMXBean())
                .getThreadAllocatedBytes(Thread.currentThread().getId());
    }

    public static void main(String[] args) throws Exception {
        ConvoyRoom r = new ConvoyRoom();
        long[] fresh = size(r);
        atMost("objects of a new room", fresh[0], 100);
        atMost("fields and elements of a new room", fresh[1], 3000);
        useAll(r, 0);
        long[] used = size(r);
        atMost("objects of a used room", used[0], 100);
        atMost("fields and elements of a used room", used[1], 14000);
        allocated();
        long before = allocated();
        long sum = 0;
        for (int i = 1; i <= 12; i++) {
            sum += useAll(r, i);
        }
        long after = allocated();
        atMost("bytes that 400 calls make", after - before, 4096);
        atMost("objects after all", size(r)[0], used[0]);
        System.out.println("SpaceTest: objects " + used[0] + ", parts " + used[1] + ", bytes made "
                + (after - before) + ", sum " + sum);
        CHECK.finish();
    }
}
