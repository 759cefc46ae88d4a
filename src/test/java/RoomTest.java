import java.lang.management.ManagementFactory;

/** A run must fit into one room: an object is made once, and its calls make nothing. */
public final class RoomTest {
    private static final int CALLS = 512;
    private static final long OBJECT_BYTES = 600_000;
    private static final long CALLS_BYTES = 100_000;

    private RoomTest() {
    }

    public static void main(String[] args) {
        Check.part("the room");
        loadClasses();
        long before = allocated();
        SlipwayPlan x = new SlipwayPlan();
        long made = allocated() - before;
        Check.holds("an object takes " + made + " bytes", made <= OBJECT_BYTES);
        before = allocated();
        tell(x);
        long answers = ask(x);
        long used = allocated() - before;
        Check.holds("the calls take " + used + " bytes; " + answers, used <= CALLS_BYTES);
        Check.end();
    }

    private static void loadClasses() {
        SlipwayPlan x = new SlipwayPlan();
        tell(x);
        ask(x);
        allocated();
    }

    private static void tell(SlipwayPlan x) {
        for (int task = 0; task < 24; task++) {
            x.addTask(task % 20, task % 4);
            x.setNeed(task, task % 4, 5);
            x.setTerms(task, task % 10, task * 3);
            if (task > 0) {
                x.link(task / 2, task, task % 3, task % 21);
            }
        }
    }

    private static long ask(SlipwayPlan x) {
        long sum = 0;
        for (int call = 96; call < CALLS; call += 8) {
            x.setRule(call / 8 % 4);
            x.keep();
            sum += x.digest();
            sum += x.bestRule();
            sum += x.couldGrow(call % 24);
            sum += x.levelledWithout(call % 23);
            sum += x.drop(call % 23);
            sum += x.link(0, 23, 0, 1);
        }
        return sum;
    }

    private static long allocated() {
        com.sun.management.ThreadMXBean threads =
                (com.sun.management.ThreadMXBean) ManagementFactory.getThreadMXBean();
        return threads.getThreadAllocatedBytes(Thread.currentThread().getId());
    }
}
