import java.lang.management.ManagementFactory;
import java.lang.reflect.Array;
import java.lang.reflect.Field;
import java.lang.reflect.Modifier;
import java.util.ArrayList;
import java.util.Collections;
import java.util.IdentityHashMap;
import java.util.List;
import java.util.Set;
import java.util.function.IntSupplier;

/**
 * All calls of a run live in one room, from which nothing goes: the dearest call, also that of the
 * constructor, fits into it as often as a run may have calls.
 */
public final class RoomTest {
    private static final long CALLS = 512;
    private static final long OBJECTS = 600_000;
    private static final long ELEMENTS = 7_300_000;
    /** One small object: a head, and a few fields. */
    private static final long SMALL_BYTES = 64;

    private RoomTest() {
    }

    public static void main(String[] args) throws IllegalAccessException {
        for (int letters = 2; letters <= 4; letters++) {
            newObjects(letters);
            usedObjects(letters);
        }
        calls();
        Check.finish();
    }

    private static void newObjects(int letters) throws IllegalAccessException {
        long[] held = held(new TextMachines(letters));
        System.out.println(letters + " letters: " + held[0] + " objects, " + held[1] + " fields and elements");
        Check.holds(CALLS + " new objects in the room: " + held[0] * CALLS + " objects", held[0] * CALLS <= OBJECTS);
        Check.holds(CALLS + " new objects in the room: " + held[1] * CALLS + " elements", held[1] * CALLS <= ELEMENTS);
    }

    /** What an object holds is all there from the beginning on. */
    private static void usedObjects(int letters) throws IllegalAccessException {
        long[] atFirst = held(new TextMachines(letters));
        TextMachines x = Given.full(letters);
        long[] then = held(x);
        Check.due("objects that a full one holds", then[0], atFirst[0]);
        Check.due("elements that a full one holds", then[1], atFirst[1]);
        x.clear();
        Given.fillShelf(x);
        Check.due("elements that it holds once it was cleared", held(x)[1], atFirst[1]);
    }

    /** How many objects and arrays can be come to, and how many fields and elements they have. */
    private static long[] held(Object first) throws IllegalAccessException {
        Set<Object> seen = Collections.newSetFromMap(new IdentityHashMap<>());
        List<Object> queue = new ArrayList<>(List.of(first));
        seen.add(first);
        long elements = 0;
        for (int i = 0; i < queue.size(); i++) {
            List<Object> parts = new ArrayList<>();
            elements += partsOf(queue.get(i), parts);
            for (Object part : parts) {
                if (seen.add(part)) {
                    queue.add(part);
                }
            }
        }
        return new long[] {queue.size(), elements};
    }

    /** How many fields or elements one has; those of them that are objects are added to the parts. */
    private static long partsOf(Object whole, List<Object> parts) throws IllegalAccessException {
        if (whole.getClass().isArray()) {
            boolean objects = !whole.getClass().getComponentType().isPrimitive();
            for (int i = 0; objects && i < Array.getLength(whole); i++) {
                addPart(Array.get(whole, i), parts);
            }
            return Array.getLength(whole);
        }
        long fields = 0;
        for (Class<?> c = whole.getClass(); c != Object.class; c = c.getSuperclass()) {
            for (Field f : c.getDeclaredFields()) {
                if (Modifier.isStatic(f.getModifiers())) {
                    continue;
                }
                fields++;
                f.setAccessible(true);
                addPart(f.getType().isPrimitive() ? null : f.get(whole), parts);
            }
        }
        return fields;
    }

    private static void addPart(Object part, List<Object> parts) {
        if (part != null) {
            parts.add(part);
        }
    }

    /** A call makes one small object at most, also where it goes through the most places. */
    private static void calls() {
        TextMachines x = new TextMachines(2);
        int ring = Given.ring(x, 20);
        int wide = Given.ring(x, 19);
        int some = Given.some(x, "0110", "10", "111000");
        Given.collect(x, "0110100110010110");
        call("clear", Given.busy(2)::clear);
        call("add", () -> x.add(1));
        call("make", () -> x.make(0));
        call("pair", () -> x.pair(0, ring, wide));
        call("not", () -> x.not(ring));
        call("join", () -> x.join(ring, wide));
        call("many", () -> x.many(some));
        call("turn", () -> x.turn(some));
        call("become", () -> x.become(some, 0, 1));
        call("drop", () -> x.drop(some, 0));
        call("cut", () -> x.cut(some, 100));
        call("trim", () -> x.trim(some, 100));
        call("part", () -> x.part(some, 2));
        call("widen", () -> x.widen(ring, 40));
        call("when", () -> x.when(3, ring, false));
        call("numerals", () -> x.numerals(5, 1000000000));
        call("states", () -> x.states(ring));
        call("next", () -> x.next(ring, 1, 1));
        call("end", () -> x.end(ring, 1));
        call("has", () -> x.has(ring));
        call("within", () -> x.within(ring, wide));
        call("differ", () -> x.differ(ring, wide));
        call("count", () -> (int) x.count(ring, 100));
        call("pick", () -> x.pick(ring, 1000000));
        call("told", () -> x.told(0));
        call("longest", () -> x.longest(ring));
        call("of", () -> x.of(2));
        call("wipe", x::wipe);
    }

    private static void call(String name, IntSupplier asked) {
        asked.getAsInt();
        long before = allocated();
        long beforeCall = allocated();
        asked.getAsInt();
        long bytes = allocated() - beforeCall - (beforeCall - before);
        Check.holds(name + " makes little: " + bytes + " bytes", bytes <= SMALL_BYTES);
    }

    private static long allocated() {
        com.sun.management.ThreadMXBean threads =
            (com.sun.management.ThreadMXBean) ManagementFactory.getThreadMXBean();
        return threads.getCurrentThreadAllocatedBytes();
    }
}
