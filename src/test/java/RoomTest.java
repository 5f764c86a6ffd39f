import com.sun.management.ThreadMXBean;
import java.lang.management.ManagementFactory;

/** All calls of a run share one room: an object is small, and its calls make nothing. */
public final class RoomTest {
    private static final ThreadMXBean THREADS = (ThreadMXBean) ManagementFactory.getThreadMXBean();
    private static final Check c = new Check("RoomTest");
    private static long sum = 0;

    public static void main(String[] args) {
        String signs = "q4 b0246 u0135 c4444 g1234 t1534 g7777 b0167 c0167 b8902 u5553 g2222 b3579";
        BarBehind x = Check.of(signs);
        callAll(x);
        long before = taken();
        for (int i = 0; i < 20; i++) callAll(x);
        long calls = taken() - before;
        before = taken();
        for (int i = 0; i < 10; i++) sum += new BarBehind().asked();
        long objects = (taken() - before) / 10;
        System.out.println("RoomTest: " + calls + " bytes for 20 rounds of calls, " + objects + " for an object");
        c.due("the calls make nothing", calls < 2000 ? 1 : 0, 1);
        c.due("an object takes at most 8000 bytes", objects < 8000 ? 1 : 0, 1);
        c.end();
    }

    private static long taken() {
        return THREADS.getThreadAllocatedBytes(Thread.currentThread().getId());
    }

    private static void callAll(BarBehind x) {
        sum += x.row(0, 40) + x.lay(0, 1, 2) + x.at(0, 1) + x.copy(0, 0, 0, 1, 9) + x.mean(0) + x.tear(0);
        sum += x.text(1, 80) + x.put(1, 0, 1) + x.fault(0) + x.piece(0) + x.place(0, 1) + x.note(0, 0) + x.mark(1, 1);
        sum += x.lots(4, 77) + x.play() + x.slip(0, 1) + x.jump(1, 0) + x.image(0) + x.anew(0) + x.restore(0);
        sum += x.undo(3) + x.here() + x.out(0) + x.hear() + x.heard(3);
        sum += x.fits() + x.odds(0) + x.self(0) + x.who() + x.likely() + x.began();
        sum += x.tells(0) + x.best() + x.hides(0, 1) + x.fewest() + x.modern();
        for (int rule = 0; rule < 6; rule++) sum += x.together(rule) + x.signs(rule);
        sum += x.rule() + x.line() + x.letter() + x.aloud();
        sum += x.asked() + x.upper() + x.lower() + x.count(0) + x.finding() + x.findings(1) + x.digest();
    }
}
