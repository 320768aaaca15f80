import java.lang.management.ManagementFactory;
import java.lang.reflect.Array;
import java.lang.reflect.Field;
import java.lang.reflect.Modifier;
import java.util.ArrayDeque;
import java.util.Collections;
import java.util.Deque;
import java.util.IdentityHashMap;
import java.util.Set;

/** What a run makes: the parts of a full object are few, and calls on it make none beside them. */
public final class RoomTest {
    private static final int CALLS = 512;
    private static final long MOST_OBJECTS = 600_000L;
    private static final long MOST_ELEMENTS = 7_300_000L;

    private final Checks checks = new Checks();

    public static void main(String[] args) throws IllegalAccessException {
        RoomTest test = new RoomTest();
        test.objectsStayFew();
        test.callsMakeNothing();
        test.checks.end();
    }

    private void objectsStayFew() throws IllegalAccessException {
        long[] bare = partsOf(new LetterCounts());
        LetterCounts x = new LetterCounts();
        long[] full = null;
        for (int k = 0; k < 10; k++) {
            x.rule(0, 1, 2, 3, 4);
            full = partsOf(x);
        }
        System.out.println("new: " + bare[0] + " objects, " + bare[1] + " elements; with ten rules: "
                + full[0] + " objects, " + full[1] + " elements");
        // The dearest run that could be: each call makes a new object or a first rule in its place.
        long objects = Math.max(bare[0], (full[0] - bare[0]) / 10 + 1);
        long elements = Math.max(bare[1], (full[1] - bare[1]) / 10 + 1);
        checks.dueText("objects of a run", "true", Boolean.toString(CALLS * objects < MOST_OBJECTS));
        checks.dueText("elements of a run", "true", Boolean.toString(CALLS * elements < MOST_ELEMENTS));
    }

    /** Objects and arrays, and their fields and elements, that can be reached from an object. */
    private static long[] partsOf(Object start) throws IllegalAccessException {
        Set<Object> seen = Collections.newSetFromMap(new IdentityHashMap<>());
        Deque<Object> open = new ArrayDeque<>();
        seen.add(start);
        open.add(start);
        long elements = 0;
        while (!open.isEmpty()) {
            Object next = open.remove();
            if (next.getClass().isArray()) {
                elements += Array.getLength(next);
                for (int k = 0; next instanceof Object[] && k < Array.getLength(next); k++) {
                    visit(Array.get(next, k), seen, open);
                }
                continue;
            }
            for (Field field : next.getClass().getDeclaredFields()) {
                if (!Modifier.isStatic(field.getModifiers())) {
                    elements++;
                    if (!field.getType().isPrimitive()) {
                        field.setAccessible(true);
                        visit(field.get(next), seen, open);
                    }
                }
            }
        }
        return new long[] {seen.size(), elements};
    }

    private static void visit(Object part, Set<Object> seen, Deque<Object> open) {
        if (part != null && seen.add(part)) {
            open.add(part);
        }
    }

    private void callsMakeNothing() {
        LetterCounts x = new LetterCounts();
        dearCalls(x);
        long before = allocatedBytes();
        for (int k = 0; k < 20; k++) {
            dearCalls(x);
        }
        long bytes = allocatedBytes() - before;
        System.out.println("calls on a full object made " + bytes + " bytes");
        // What the machine itself makes meanwhile is far below one row of counts for each time.
        checks.dueText("calls make nothing", "true", Boolean.toString(bytes < 20 * 512));
    }

    private static void dearCalls(LetterCounts x) {
        x.clear();
        x.rule(0, 1, 2, 3, 4);
        for (int n = 0; n < 5; n++) {
            x.rule(n, 5 + n % 3, n, -1, -1);
        }
        for (int n = 1; n < 5; n++) {
            x.rule(n, -1, -1, -1, -1);
        }
        x.many(0);
        x.count(0, 0);
        x.height(0, 7, 7, 7);
        x.derive(0, 7, 7, 7);
        x.step(0);
        x.use(0, 1);
        x.fit(0);
        x.letters(0);
    }

    private static long allocatedBytes() {
        return ((com.sun.management.ThreadMXBean) ManagementFactory.getThreadMXBean())
                .getThreadAllocatedBytes(Thread.currentThread().getId());
    }
}
