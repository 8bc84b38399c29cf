import java.lang.management.ManagementFactory;

/** All calls of a run live in one room: a new object is small, and its calls make nothing. */
public final class SpaceTest {
    private static final int CALLS = 512;
    private static final long OBJECT_BYTES = 40_000;
    private static final long CALLS_BYTES = 2_000;
    private static final long RING = 0x72696e673bL;
    private static final long GUESTS = 0x6775657374732038L;

    public static void main(String[] args) {
        long[] warm = run();
        long[] bytes = run();
        System.out.println("bytes of an object: " + bytes[0] + ", of " + CALLS + " calls: " + bytes[1]);
        Due.holds("measured", warm[0] > 0);
        Due.holds("an object has bytes: " + bytes[0], bytes[0] < OBJECT_BYTES);
        Due.holds("its calls make bytes: " + bytes[1], bytes[1] < CALLS_BYTES);
        Due.finish();
    }

    private static long[] run() {
        long first = made();
        GuestParties x = new GuestParties();
        long second = made();
        for (int i = 0; i < CALLS; i++) {
            call(x, i);
        }
        long third = made();
        return new long[] {second - first, third - second};
    }

    private static long made() {
        com.sun.management.ThreadMXBean threads =
                (com.sun.management.ThreadMXBean) ManagementFactory.getThreadMXBean();
        return threads.getThreadAllocatedBytes(Thread.currentThread().getId());
    }

    private static long call(GuestParties x, int i) {
        switch (i % 32) {
            case 0: return x.type(GUESTS, 8);
            case 1: return x.type(i % 64 == 1 ? ';' : ';' << 16 | ';', i % 64 == 1 ? 1 : 3);
            case 2: return x.room();
            case 3: return x.clear();
            case 4: return x.many(0);
            case 5: return x.type(RING, 5);
            case 6: return x.draw();
            case 7: return x.keep(0);
            case 8: return x.evening(99);
            case 9: return x.saw(0, 1, 1);
            case 10: return x.left();
            case 11: return x.sure(2, 3);
            case 12: return x.two(0, 1, 2);
            case 13: return x.between(0);
            case 14: return x.fewest(0);
            case 15: return x.best(-1);
            case 16: return x.leaving(-1);
            case 17: return x.rate(3, 0);
            case 18: return x.back(0);
            case 19: return x.rank();
            case 20: return x.nth(77, 3);
            case 21: return x.goes(0, 1);
            case 22: return x.join(0, 1);
            case 23: return x.part(0, 1);
            case 24: return x.now(1);
            case 25: return x.law(3);
            case 26: return x.pair(0, 1, 2);
            case 27: return x.party(3);
            case 28: return x.lot(i);
            case 29: return x.count(2);
            case 30: return x.trace();
            default: return x.forget();
        }
    }
}
