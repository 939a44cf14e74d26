import java.lang.management.ManagementFactory;

/** All calls of one run live in one room: nothing may be made anew by the calls. */
public final class RoomTest {
    private static final int CALLS = 500;

    public static void main(String[] args) {
        Check check = new Check();
        com.sun.management.ThreadMXBean threads =
                (com.sun.management.ThreadMXBean) ManagementFactory.getThreadMXBean();
        long thread = Thread.currentThread().getId();
        run(new Nettle());
        Nettle nettle = new Nettle();
        long before = threads.getThreadAllocatedBytes(thread);
        run(nettle);
        long made = threads.getThreadAllocatedBytes(thread) - before;
        check.same("the calls of a run make nearly nothing (" + made + " bytes)", made < 20000, true);
        before = threads.getThreadAllocatedBytes(thread);
        nettle = new Nettle();
        made = threads.getThreadAllocatedBytes(thread) - before;
        check.same("an object is small (" + made + " bytes)", made < 60000, true);
        check.done("RoomTest");
    }

    private static void run(Nettle nettle) {
        for (int rule = 0; rule < 8; rule++) {
            nettle.rule(rule % 3);
            for (int field = 0; field < 3; field++) {
                nettle.narrow(rule, field, 10 + rule * 5, 245 - rule * 6);
            }
        }
        nettle.copy();
        nettle.move(0, 7);
        for (int call = nettle.rules() * 4 + 3; call < CALLS; call += 3) {
            nettle.send(call % 256, call % 256, call, 0);
            nettle.setLast(call % 2 == 0);
            nettle.digest();
        }
    }
}
