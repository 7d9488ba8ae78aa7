import java.lang.management.ManagementFactory;

/** An object's rows are made once: its calls make next to nothing. */
public final class RoomTest {
    /** With those before them, fewer than the 512 for which an object is good. */
    private static final int CALLS = 480;
    /** Generous for the counter's own coarseness, and far below one copy of a situation a call. */
    private static final long MOST_BYTES = CALLS * 400L;

    private static final com.sun.management.ThreadMXBean BEAN =
            (com.sun.management.ThreadMXBean) ManagementFactory.getThreadMXBean();

    public static void main(String[] args) {
        Due due = new Due();
        made();
        new TriggerNetwork();
        long before = made();
        TriggerNetwork x = new TriggerNetwork();
        due.same("an object is small", true, made() - before < 200_000);
        Net.feed(x, "station 0 0;station 30 30;average 1 2;trigger 150 100;votes 1;rung 1 1;grid 0 0 12 12 9;");
        x.pass(2);
        x.setLevel(0, 5);
        x.pass(1);
        calls(x, 1);
        before = made();
        calls(x, CALLS / 12);
        long bytes = made() - before;
        due.same("calls make little: " + bytes, true, bytes < MOST_BYTES);
        due.finish();
    }

    private static void calls(TriggerNetwork x, int rounds) {
        for (int round = 0; round < rounds; round++) {
            x.append(0, 0, 0, 0, 0);
            x.describe(0);
            x.event(0, 6);
            x.misfit(0, 0);
            x.ratioAfter(0, 5, 200);
            x.eventsWithout(1, 200);
            x.ticksToEvent();
            x.setLevel(1, round);
            x.pass(3);
            x.saveSnapshot(0);
            x.undo();
            x.restoreSnapshot(0);
        }
    }

    private static long made() {
        return BEAN.getThreadAllocatedBytes(Thread.currentThread().getId());
    }
}
