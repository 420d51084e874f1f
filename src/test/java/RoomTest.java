import java.lang.management.ManagementFactory;

/** Many calls on one object take no room of their own: rows are made once and used again. */
public final class RoomTest {
    private static final int CALLS = 512;
    private static final long MOST_BYTES = 100_000;

    public static void main(String[] args) {
        long used = 0;
        // The first turns load classes and names; the last one tells.
        for (int turn = 0; turn < 3; turn++) {
            long before = bytes();
            calls();
            used = bytes() - before;
        }
        Checks checks = new Checks();
        checks.due("bytes of " + CALLS + " calls above " + MOST_BYTES, used > MOST_BYTES ? used : 0, 0);
        checks.end("room");
    }

    private static long bytes() {
        return ((com.sun.management.ThreadMXBean) ManagementFactory.getThreadMXBean())
                .getThreadAllocatedBytes(Thread.currentThread().getId());
    }

    private static void calls() {
        OrderLevels shop = new OrderLevels();
        String text = "season 9 5;order 12;sell 3;follow;sell 6;weight 3 4;cost 0 9;plan 1 2 9;";
        for (int i = 0; i < text.length(); i++) {
            shop.type(text.charAt(i));
        }
        for (int call = text.length(); call < CALLS - 10; call += 10) {
            shop.play();
            shop.fault(0);
            shop.least(0, 6, 1);
            shop.bestPlan(4, 3, 2);
            shop.regret(0, 6, 0);
            shop.planned(3, 6, 0);
            shop.shape(6, 6);
            shop.levelValue(3, 6, 0);
            shop.best(0, 6);
            shop.undo();
        }
    }
}
