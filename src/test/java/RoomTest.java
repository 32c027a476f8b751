import java.lang.management.ManagementFactory;

/** All calls of one run live in one room, so 512 of the dearest ones are to make next to nothing. */
public final class RoomTest {
    private static final int CALLS = 512;
    private static final long BYTES_OF_AN_OBJECT = 40_000;
    private static final long BYTES_OF_ALL_CALLS = 20_000;

    private static final Due due = new Due("RoomTest");
    private static final com.sun.management.ThreadMXBean MEMORY =
            (com.sun.management.ThreadMXBean) ManagementFactory.getThreadMXBean();

    public static void main(String[] args) {
        run();
        long[] made = run();
        due.is("an object, bytes " + made[0], made[0] <= BYTES_OF_AN_OBJECT, true);
        due.is("calls, bytes " + made[1], made[1] <= BYTES_OF_ALL_CALLS, true);
        due.finish();
    }

    private static long[] run() {
        long start = bytes();
        CliffCars cars = new CliffCars();
        long object = bytes();
        for (int i = 0; i < CALLS / 32; i++) {
            calls(cars, i);
        }
        return new long[] {object - start, bytes() - object};
    }

    private static long bytes() {
        return MEMORY.getThreadAllocatedBytes(Thread.currentThread().getId());
    }

    private static void calls(CliffCars cars, int i) {
        cars.sign(0x31323334);
        cars.sign(0x2F353637);
        cars.parties();
        cars.sign(0x632F392B);
        cars.sign(0x756E7564);
        cars.end(5);
        cars.law();
        cars.keep(i % 2);
        cars.least(1 + i % 5);
        cars.freely();
        cars.most(50);
        cars.best();
        cars.alike();
        cars.parts(0);
        cars.spare();
        cars.odds(5, 5);
        cars.asks();
        cars.fits();
        cars.looks();
        cars.pails(200);
        cars.rests(20);
        cars.years(i, 60);
        cars.enough();
        cars.soonest();
        cars.holds(60);
        cars.later(99);
        cars.drains(1);
        cars.runs(1);
        cars.trip();
        cars.swaps(0, 0);
        cars.undo();
        cars.again(0);
    }
}
