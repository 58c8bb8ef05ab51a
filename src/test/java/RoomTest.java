import java.lang.management.ManagementFactory;

/** All calls of one run live in one room, so the calls make no objects of their own. */
public final class RoomTest {
    /** Far below what one row for each call would take. */
    private static final long MOST_BYTES = 50_000;

    private static long allocated() {
        com.sun.management.ThreadMXBean threads =
            (com.sun.management.ThreadMXBean) ManagementFactory.getThreadMXBean();
        return threads.getThreadAllocatedBytes(Thread.currentThread().getId());
    }

    private static long play() {
        SlateRoofs roof = new SlateRoofs();
        long answers = 0;
        long before = allocated();
        for (int i = 0; i < 60; i++) {
            answers += roof.lay(i / 12, i % 12, 1, 1 + i % 3);
        }
        for (int day = 0; day < 7; day++) {
            roof.setDay(day, day % 3, day % 2 == 1, day, 9 - day);
        }
        for (int i = 0; i < 55; i++) {
            answers += roof.foresee(60, i % 3) + roof.best() + roof.digest() + roof.storm(20, false, i % 3);
            answers += roof.needs(0, 0, 4) + roof.leaks(9) + roof.bears(true) + roof.pass(1);
        }
        long taken = allocated() - before;
        return answers == Long.MIN_VALUE ? 0 : taken;
    }

    public static void main(String[] args) {
        // The first run also pays for what the machine loads.
        play();
        long taken = play();
        if (taken > MOST_BYTES) {
            System.out.println("a run of calls made " + taken + " bytes of objects, at most due are " + MOST_BYTES);
            System.exit(1);
        }
        System.out.println("a run of calls made " + taken + " bytes of objects");
    }
}
