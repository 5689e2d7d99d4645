import java.lang.management.ManagementFactory;

/** What the dearest runs of 512 calls make stays far below the room of 7.3 million elements. */
public final class RoomTest {
    private static final int CALLS = 512;
    /** The dearest run makes some 800,000 bytes; a copy of all that is made anew in each call would make 1,900,000. */
    private static final long MOST_BYTES = 1_200_000;

    public static void main(String[] args) {
        dearestRuns();
        Check.end();
    }

    private static void dearestRuns() {
        if (ManagementFactory.getThreadMXBean() instanceof com.sun.management.ThreadMXBean bean) {
            measure(bean, 0);
            measure(bean, 1);
            measure(bean, 2);
        }
    }

    private static void measure(com.sun.management.ThreadMXBean bean, int way) {
        long thread = Thread.currentThread().getId();
        long ahead = bean.getThreadAllocatedBytes(thread);
        OilLine x = prepared();
        for (int i = 0; i < CALLS; i++) {
            call(x, way, i);
        }
        long made = bean.getThreadAllocatedBytes(thread) - ahead;
        Check.holds("way " + way + " makes " + made + " bytes", made < MOST_BYTES);
    }

    private static OilLine prepared() {
        OilLine x = new OilLine();
        prepare(x);
        return x;
    }

    private static void prepare(OilLine x) {
        x.line(120);
        x.door(0);
        x.door(120);
        x.tank(0, 1, 0, 10000, 10000);
    }

    private static void call(OilLine x, int way, int i) {
        if (way == 0) {
            x.push(0, 1, 1, 1);
        } else if (way == 1) {
            x.trial(0, 1, 1, 60);
        } else if (i % 200 < 199) {
            x.push(0, 1, 1, 1);
        } else {
            prepare(x);
        }
    }
}
