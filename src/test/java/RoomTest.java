import java.lang.management.ManagementFactory;
import java.lang.reflect.Array;
import java.lang.reflect.Field;
import java.lang.reflect.Modifier;
import java.util.ArrayDeque;
import java.util.Collections;
import java.util.Deque;
import java.util.IdentityHashMap;
import java.util.Set;

/**
 * All calls of one run live in one room of some 600,000 objects and 7.3 million fields and elements: even a run whose
 * every call makes a new object, or a run that makes all that objects make later, has to find room there.
 */
public final class RoomTest {
    private static final int CALLS = 512;
    private static final int MOST_OBJECTS = 600_000;
    private static final int MOST_ELEMENTS = 7_300_000;
    /** feed, net, 12 calls that can be taken back, 2 images: fewer calls don't make all that an object can make. */
    private static final int CALLS_TO_FILL = 16;
    private static final int REPEATED = 2_000;
    private static int wrong = 0;

    public static void main(String[] args) throws Exception {
        long[] fresh = roomOf(new CombinatorRing());
        need("new objects, a call each", fresh, CALLS);
        CombinatorRing full = filled();
        need("objects that are filled", roomOf(full), CALLS / CALLS_TO_FILL);
        long[] before = roomOf(full);
        long made = madeByCalls(full);
        // The least object takes 16 bytes: less than one in a row of calls is none of the class's own.
        if (made >= 16L * REPEATED) {
            fail(REPEATED + " rows of calls made " + made + " bytes");
        }
        long[] after = roomOf(full);
        if (before[0] != after[0] || before[1] != after[1]) {
            fail("an object grew: " + before[1] + " elements, then " + after[1]);
        }
        System.out.println("a new object: " + told(fresh) + "; filled: " + told(after) + "; by " + REPEATED
            + " rows of calls: " + made + " bytes; "
            + (wrong == 0 ? "all find room" : wrong + " faults"));
        if (wrong != 0) {
            System.exit(1);
        }
    }

    private static void fail(String what) {
        wrong++;
        System.out.println(what);
    }

    private static void need(String what, long[] room, int times) {
        if (room[0] * times > MOST_OBJECTS || room[1] * times > MOST_ELEMENTS) {
            fail(what + ": " + times + " times " + told(room));
        }
    }

    private static String told(long[] room) {
        return room[0] + " objects, " + room[1] + " elements";
    }

    private static CombinatorRing filled() {
        CombinatorRing x = new CombinatorRing();
        Boundary.read(x, "memory 300; [a b] ~ #20; c ~ d;");
        for (int i = 0; i < 20; i++) {
            x.run(i % 3, 3, i);
        }
        x.image(0, false);
        x.image(1, false);
        return x;
    }

    /** Objects (arrays, too), and their fields and elements, that an object holds, itself among them. */
    private static long[] roomOf(Object first) throws Exception {
        Set<Object> met = Collections.newSetFromMap(new IdentityHashMap<>());
        Deque<Object> open = new ArrayDeque<>();
        long elements = 0;
        met.add(first);
        open.add(first);
        while (!open.isEmpty()) {
            Object at = open.remove();
            if (at.getClass().isArray()) {
                elements += Array.getLength(at);
                for (int i = 0; at instanceof Object[] && i < Array.getLength(at); i++) {
                    meet(Array.get(at, i), met, open);
                }
                continue;
            }
            for (Field field : at.getClass().getDeclaredFields()) {
                if (!Modifier.isStatic(field.getModifiers())) {
                    elements++;
                    field.setAccessible(true);
                    if (!field.getType().isPrimitive()) {
                        meet(field.get(at), met, open);
                    }
                }
            }
        }
        return new long[] {met.size(), elements};
    }

    private static void meet(Object next, Set<Object> met, Deque<Object> open) {
        if (next != null && met.add(next)) {
            open.add(next);
        }
    }

    /** Bytes that were made in all by rows of the dearest calls, on an object that has made all that it keeps. */
    private static long madeByCalls(CombinatorRing x) {
        if (!(ManagementFactory.getThreadMXBean() instanceof com.sun.management.ThreadMXBean threads)) {
            return 0;
        }
        // Asked once ahead, as the first asking may make something of its own.
        threads.getCurrentThreadAllocatedBytes();
        long before = threads.getCurrentThreadAllocatedBytes();
        for (int i = 0; i < REPEATED; i++) {
            row(x, i);
        }
        return threads.getCurrentThreadAllocatedBytes() - before;
    }

    private static void row(CombinatorRing x, int i) {
        // "memory 99;[a b]~#9; c~d;", so that texts are read, too
        x.feed(0x6D656D6F, 0x72792039, 0x393B5B61, 0x20625D7E, 0x23393B20);
        x.feed(0x637E643B, 0x20202020, 0x20202020, 0x20202020, 0x20202020);
        if (x.net(40) != 20) {
            fail("the text wasn't read");
        }
        x.run(i % 3, 9, i);
        x.round();
        x.reduce(x.pair(0, 0));
        x.tried(2, 40, i, 1);
        x.alike(0, 2, 999, i);
        x.rounds();
        x.image(i % 2, false);
        x.put(2, 5);
        x.twice(3);
        x.likeImage(i % 2);
        x.met(i % 20, 0);
        x.number(0);
        x.list(1, 0);
        x.undo();
        x.image(i % 2, true);
    }
}
