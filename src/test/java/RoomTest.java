import com.sun.management.ThreadMXBean;
import java.lang.management.ManagementFactory;
import java.lang.reflect.Array;
import java.lang.reflect.Field;
import java.lang.reflect.Modifier;
import java.util.ArrayDeque;
import java.util.Collections;
import java.util.Deque;
import java.util.IdentityHashMap;
import java.util.Set;

/** All calls of one run live in one room: what an object holds is made with it, and calls make nothing more. */
public final class RoomTest {
    private static final Check CHECK = new Check("RoomTest");
    private static final int MOST_OBJECTS = 1000;
    private static final int MOST_ELEMENTS = 200000;
    /** The machine may make something of its own beside the calls. */
    private static final long MOST_BYTES = 20000;

    public static void main(String[] args) throws IllegalAccessException {
        for (int least = 2; least <= 8; least++) {
            holdsNoMore(least);
            makesNothing(least);
        }
        CHECK.finish();
    }

    private static void holdsNoMore(int least) throws IllegalAccessException {
        PaletteFrames x = new PaletteFrames(least);
        int[] first = held(x);
        CHECK.due("objects, L " + least, Math.max(MOST_OBJECTS, first[0]), MOST_OBJECTS);
        CHECK.due("fields and elements, L " + least, Math.max(MOST_ELEMENTS, first[1]), MOST_ELEMENTS);
        use(x);
        CHECK.due("objects behind many calls, L " + least, held(x)[0], first[0]);
        CHECK.due("fields and elements behind many calls, L " + least, held(x)[1], first[1]);
    }

    private static void makesNothing(int least) {
        ThreadMXBean machine = (ThreadMXBean) ManagementFactory.getThreadMXBean();
        long thread = Thread.currentThread().getId();
        PaletteFrames x = new PaletteFrames(least);
        long before = machine.getThreadAllocatedBytes(thread);
        use(x);
        long made = machine.getThreadAllocatedBytes(thread) - before;
        CHECK.due("bytes made by many calls, L " + least, Math.max(MOST_BYTES, made), MOST_BYTES);
    }

    /** Every call of the face, fewer than 512 calls in all, none of them refused. */
    private static void use(PaletteFrames x) {
        for (int i = 0; i < 12; i++) {
            x.put(i, 2 * i + 1, 1000);
        }
        for (int round = 0; round < 20; round++) {
            x.rule(round % 3);
            x.pass(0, x.encode() + x.coded(0));
            x.feed(round);
            x.decode();
            x.take();
            x.byteAt(0);
            x.at(round);
        }
        for (int i = 0; i < 12; i++) {
            x.frame(i, i, 12, 12, true, i % 4, i);
            x.through(i, i % 4);
            x.colour(i, i % 4, i);
        }
        for (int i = 0; i < 48; i++) {
            x.shown(11, i % 24, i / 24);
            x.symbol(i % 12, i % 11, 3);
            x.when(i, 2);
            x.passOf(i);
            x.told(i % 6);
        }
        x.clear();
    }

    private static int[] held(Object root) throws IllegalAccessException {
        Set<Object> seen = Collections.newSetFromMap(new IdentityHashMap<>());
        Deque<Object> open = new ArrayDeque<>();
        int elements = 0;
        seen.add(root);
        open.add(root);
        while (!open.isEmpty()) {
            Object one = open.remove();
            if (one.getClass().isArray()) {
                elements += Array.getLength(one);
                if (one instanceof Object[] parts) {
                    for (Object part : parts) {
                        see(part, seen, open);
                    }
                }
            } else {
                for (Field field : one.getClass().getDeclaredFields()) {
                    if (!Modifier.isStatic(field.getModifiers())) {
                        elements++;
                        if (!field.getType().isPrimitive()) {
                            field.setAccessible(true);
                            see(field.get(one), seen, open);
                        }
                    }
                }
            }
        }
        return new int[] {seen.size(), elements};
    }

    private static void see(Object part, Set<Object> seen, Deque<Object> open) {
        if (part != null && seen.add(part)) {
            open.add(part);
        }
    }
}
