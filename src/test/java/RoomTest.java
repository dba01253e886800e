import java.lang.management.ManagementFactory;

/** All calls of a run live in one room: only the constructor may take memory, and not much. */
public final class RoomTest {
    private static final int OBJECTS = 200;
    private static final int ROUNDS = 200;

    private static long sink = 0;

    public static void main(String[] args) {
        if (!canBeMeasured()) {
            System.out.println("RoomTest: this virtual machine does not tell what a thread takes; nothing looked at");
            return;
        }
        Checks checks = new Checks("RoomTest");
        LevelledRing ring = new LevelledRing(0);
        useAll(ring);
        long start = taken();
        for (int seed = 0; seed < OBJECTS; seed++) {
            sink += new LevelledRing(seed).count();
        }
        long perObject = (taken() - start) / OBJECTS;
        start = taken();
        for (int round = 0; round < ROUNDS; round++) {
            useAll(ring);
        }
        long perRound = (taken() - start) / ROUNDS;
        System.out.println("RoomTest: " + perObject + " bytes an object, " + perRound + " bytes a round of calls");
        // The room holds 7.3 million elements; so 512 objects of this size would leave most of it free.
        checks.yes("an object takes more than nothing", perObject > 0);
        checks.yes("an object takes less than 24 KiB", perObject < 24 * 1024);
        // What the virtual machine itself may take now and then is far below one object a call.
        checks.yes("calls take no memory", perRound < 64);
        checks.finish();
    }

    private static boolean canBeMeasured() {
        return ManagementFactory.getThreadMXBean() instanceof com.sun.management.ThreadMXBean threads
            && threads.isThreadAllocatedMemorySupported() && threads.isThreadAllocatedMemoryEnabled();
    }

    private static long taken() {
        com.sun.management.ThreadMXBean threads =
            (com.sun.management.ThreadMXBean) ManagementFactory.getThreadMXBean();
        return threads.getThreadAllocatedBytes(Thread.currentThread().getId());
    }

    private static void useAll(LevelledRing ring) {
        ring.put(1, 5);
        sink += ring.input(7) + ring.sum(0, 0) + ring.difference(0, 1) + ring.product(0, 2) + ring.shift(3, 9);
        sink += ring.lowered(4) + ring.product(5, 5) + ring.lowered(6) + ring.lowered(7) + ring.lowered(8);
        sink += ring.run() + ring.count();
        for (int g = 0; g < 10; g++) {
            sink += ring.level(g) + ring.meter(g) + ring.noise(g) + ring.part(g, 0, 1);
            sink += ring.decrypted(g, 2) + ring.plain(g, 3) + ring.secret(g);
        }
        ring.cut(0);
    }
}
