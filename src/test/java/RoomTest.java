import com.sun.management.ThreadMXBean;
import java.lang.management.ManagementFactory;

/**
 * All calls of a run share one room of some 600,000 objects and 7.3 million fields and elements. An object takes at
 * least 16 bytes and an element at least one, so a run that takes less than seven million bytes keeps to both.
 */
public final class RoomTest {
    private static final ThreadMXBean THREADS = (ThreadMXBean) ManagementFactory.getThreadMXBean();
    private static final Check c = new Check("RoomTest");
    private static final int CALLS = 512, ROOM = 7_000_000;
    private static final String LARGEST = "q4g0246u0135c4444g1234t1534g7777b0167c0167b8902u5553g2222b3579t3579u7120";
    private static long sum = 0;

    private RoomTest() {
    }

    public static void main(String[] args) {
        long dearest = 0;
        for (int call = 0; call < Calls.NAMES.length; call++) {
            run(call);
            long before = taken();
            run(call);
            long bytes = taken() - before;
            c.due(Calls.NAMES[call] + "() " + CALLS + " times in " + bytes + " bytes", bytes < ROOM ? 1 : 0, 1);
            dearest = Math.max(dearest, bytes);
        }
        System.out.println("RoomTest: " + dearest + " bytes for the dearest run");
        c.end();
    }

    /** A new object, the largest PIECE, some of it PLAYED, and then one call as often as it is promised. */
    private static void run(int call) {
        BarBehind x = Check.of(LARGEST);
        int calls = 2 + LARGEST.length();
        sum += x.row(0, 40) + x.row(1, 40) + x.image(0) + x.play() + x.play() + x.slip(0, 1) + x.image(1);
        for (int i = calls + 7; i < CALLS; i++) sum += Calls.on(x, call, arguments(call));
    }

    private static final int[] PLAIN = {0, 1, 1, 0, 20}, SEED = {20, 77}, NUMBERS = {0, 40};

    private static int[] arguments(int call) {
        switch (Calls.NAMES[call]) {
            case "lots": return SEED;
            case "row": case "text": return NUMBERS;
            default: return PLAIN;
        }
    }

    private static long taken() {
        return THREADS.getThreadAllocatedBytes(Thread.currentThread().getId());
    }
}
