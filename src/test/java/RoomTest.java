import java.lang.management.ManagementFactory;

/**
 * What a run makes: whatever the object is like inside, the bytes of a dear run stay below those that the
 * fullest room could hold.
 */
public final class RoomTest {
    private static final int CALLS = 512;
    private static final long MOST_OBJECTS = 600_000L;
    private static final long MOST_ELEMENTS = 7_300_000L;
    private static final long MOST_BYTES = MOST_OBJECTS * 16 + MOST_ELEMENTS * 8;

    private final Checks checks = new Checks();

    public static void main(String[] args) {
        RoomTest test = new RoomTest();
        // What the machine itself makes at first use is no part of a run.
        dearCalls(new LetterCounts());
        test.runWithin("a new object each call", RoomTest::newObjects);
        test.runWithin("ten rules again and again", RoomTest::newRules);
        test.runWithin("all kinds of calls", RoomTest::allCalls);
        test.checks.end();
    }

    private void runWithin(String what, Runnable run) {
        long before = allocatedBytes();
        run.run();
        long bytes = allocatedBytes() - before;
        System.out.println(what + ": " + bytes + " bytes");
        checks.dueText(what + ": room", "true", Boolean.toString(bytes <= MOST_BYTES));
    }

    private static void newObjects() {
        for (int k = 0; k < CALLS; k++) {
            LetterCounts x = new LetterCounts();
            x.clear();
        }
    }

    /** Each object has its rules, and is asked about them once. */
    private static void newRules() {
        for (int k = 0; k + 12 <= CALLS; k += 12) {
            LetterCounts x = new LetterCounts();
            for (int rule = 0; rule < 10; rule++) {
                x.rule(0, 1, 2, 3, 4);
            }
            x.many(0);
        }
    }

    private static void allCalls() {
        LetterCounts x = new LetterCounts();
        for (int k = 0; k + 19 <= CALLS; k += 19) {
            dearCalls(x);
        }
    }

    /** Nineteen calls. */
    private static void dearCalls(LetterCounts x) {
        x.clear();
        x.rule(0, 1, 2, 3, 4);
        for (int n = 0; n < 5; n++) {
            x.rule(n, 5 + n % 3, n, -1, -1);
        }
        for (int n = 1; n < 5; n++) {
            x.rule(n, -1, -1, -1, -1);
        }
        x.many(0);
        x.count(0, 0);
        x.height(0, 7, 7, 7);
        x.derive(0, 7, 7, 7);
        x.step(0);
        x.use(0, 1);
        x.fit(0);
        x.letters(0);
    }

    private static long allocatedBytes() {
        return ((com.sun.management.ThreadMXBean) ManagementFactory.getThreadMXBean())
                .getThreadAllocatedBytes(Thread.currentThread().getId());
    }
}
