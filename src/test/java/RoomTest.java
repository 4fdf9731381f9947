import java.lang.management.ManagementFactory;

/**
 * All calls of one run live in one room: the calls make nothing that grows with their number.
 * 512 calls of the dearest kinds take less than a megabyte; the room is some 60 times as large.
 */
public final class RoomTest {
    private static final int CALLS = 512;
    private static final long MOST_BYTES = 1000000;

    private static final Due due = new Due();

    public static void main(String[] args) {
        bytesOfARun();
        long bytes = bytesOfARun();
        due.holds("a run of calls took " + bytes + " bytes", bytes < MOST_BYTES);
        due.end();
    }

    private static long bytesOfARun() {
        com.sun.management.ThreadMXBean threads =
                (com.sun.management.ThreadMXBean) ManagementFactory.getThreadMXBean();
        long thread = Thread.currentThread().getId();
        long before = threads.getThreadAllocatedBytes(thread);
        TankPlant x = new TankPlant();
        x.addTank(100, 50, 1);
        x.addSwitch(0, 20, 80);
        x.addPump(-1, 0, 9, 1, 0, false);
        for (int i = 4; i < CALLS; i += 4) {
            x.save();
            x.nextChange(500);
            x.run(500);
            x.restore();
        }
        return threads.getThreadAllocatedBytes(thread) - before;
    }
}
