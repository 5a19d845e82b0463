import java.lang.management.ManagementFactory;

/** All calls of a run live in one room: what a run makes stays small, whatever it calls. */
public final class RoomTest {
    private static final String FULL = "link 9 9 60;link 9 9 60;link 9 9 60;link 9 9 60;link 9 9 60;link 9 9 60;"
        + "flow 0 1 2 3 greedy;flow 1 2 3 4 greedy;flow 2 3 4 5 greedy;flow 3 4 5 0 greedy;flow 4 5 0 1 greedy;flow 5 0 1 2 greedy;";

    public static void main(String[] args) {
        Check c = new Check("the room");
        run();
        com.sun.management.ThreadMXBean threads = (com.sun.management.ThreadMXBean) ManagementFactory.getThreadMXBean();
        long before = threads.getCurrentThreadAllocatedBytes();
        int answers = run();
        long bytes = threads.getCurrentThreadAllocatedBytes() - before;
        System.out.println("a run of 512 calls makes " + bytes + " bytes");
        // 7.3 million elements of 4 bytes would be some 29 million; a hundredth of that is plenty.
        c.due("bytes made by a run of 512 calls are few", bytes < 300000, true);
        c.due("the run answers", answers != 0, true);
        Check.end();
    }

    private static int run() {
        SharedSurplus x = new SharedSurplus();
        Nets.load(x, FULL);
        int sum = 0;
        for (int n = 0; n < 3; n++) {
            sum += x.tick(60) + x.mark();
        }
        for (int n = 0; n < 60; n++) {
            sum += x.when(0) + x.closes(0) + x.caught(0) + x.after(120, 0) + x.without(0, 1, 120) + x.blind(120, 2)
                + x.least(0, 1, 10) + x.best(3);
        }
        for (int n = 0; n < 3; n++) {
            sum += x.tick(60) + x.back();
        }
        return sum;
    }
}
