import java.lang.management.ManagementFactory;

/**
 * All calls of a run live in one room of some 7.3 million elements (an element is 8 bytes at most) and 600,000 objects:
 * the dearest calls again and again must make no more than a part of it.
 */
public final class RoomTest {
    private static final Check C = new Check("RoomTest");
    private static final long MOST_BYTES = 8_000_000L;

    public static void main(String[] args) {
        for (int warm = 0; warm < 2; warm++) {
            within("longest walks", RoomTest::walks);
            within("largest benches", RoomTest::ends);
            within("ends of growing benches", RoomTest::growing);
            within("sums", RoomTest::sums);
            within("512 new objects", RoomTest::objects);
        }
        C.end();
    }

    private static long made() {
        com.sun.management.ThreadMXBean threads =
            (com.sun.management.ThreadMXBean) ManagementFactory.getThreadMXBean();
        return threads.getThreadAllocatedBytes(Thread.currentThread().getId());
    }

    private static void within(String name, Runnable calls) {
        long before = made();
        calls.run();
        long bytes = made() - before;
        C.due(name + " made " + bytes + " bytes, few enough", bytes <= MOST_BYTES, true);
    }

    private static void walks() {
        BeatBench x = new BeatBench();
        x.sheet(0, 2, 1);
        x.write(0, 0, 1701);
        x.push(0, 1);
        x.ring(2500);
        x.beater(2, 2499);
        x.beater(2, 299);
        x.road(0, 1, true);
        x.road(1, 0, true);
        for (int k = 2; k < 24; k++) {
            x.beater(k % 2, 100 * k);
            x.round(0);
        }
        for (int k = 0; k < 100; k++) C.none(x, "round(0)", x.round(0), 10);
        for (int k = 0; k < 100; k++) C.none(x, "meet(3)", x.meet(3), 10);
    }

    private static void ends() {
        BeatBench x = new BeatBench();
        for (int k = 0; k < 4; k++) x.beater(k, 0);
        x.roads(1);
        for (int k = 0; k < 100; k++) {
            x.ends();
            x.sure(15);
        }
        C.due("status()", x.status(), 0);
    }

    private static void growing() {
        BeatBench x = new BeatBench();
        for (int ring = 46; ring <= 144; ring++) {
            x.ring(ring);
            x.beater(0, 0);
            x.beater(0, 0);
            C.due(x, "ends()", x.ends(), ring, 0);
        }
    }

    private static void sums() {
        BeatBench x = new BeatBench();
        for (int i = 0; i < 10; i++) {
            for (int j = 0; j < 10; j++) x.span(i, j, i == j ? -i : -50);
        }
        for (int k = 0; k < 60; k++) {
            x.again(0);
            x.critical();
            x.longest(0, k % 10);
            x.sums(999_999_999_999L, k % 10, 0);
            x.pace(0);
        }
    }

    private static void objects() {
        for (int k = 0; k < 512; k++) C.due("status()", new BeatBench().status(), 0);
    }
}
