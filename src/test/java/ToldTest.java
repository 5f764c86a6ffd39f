/** Promises 44 to 50: asked, upper, lower, count, finding, findings, digest. */
public final class ToldTest {
    private static final Check c = new Check("ToldTest");

    public static void main(String[] args) {
        asked();
        chances();
        count();
        findings();
        digest();
        c.end();
    }

    private static void asked() {
        BarBehind x = Check.of("q2 b01 g00");
        c.due("asked() before", x.asked(), 0);
        x.row(0, 1);
        x.lay(0, 0, 77);
        x.at(0, 0);
        x.put(0, 0, 113);
        x.tells(0);
        x.likely();
        x.hides(0, 1);
        x.signs(1);
        x.odds(0);
        x.heard(1);
        x.count(0);
        x.image(0);
        x.restore(0);
        x.lots(1, 1);
        c.due("asked() stays behind calls that tell nothing", x.asked(), 77);
        x.at(0, 1);
        x.at(6, 0);
        c.due("asked() stays behind what is refused", x.asked(), 77);
    }

    private static void chances() {
        BarBehind x = Check.of("q2 u12 u34");
        x.play();
        c.chance(x, "odds(0)", x.odds(0), 1, 3);
        x.odds(2);
        c.due("upper() behind a refused one", x.upper(), 1);
        c.due("lower() behind a refused one", x.lower(), 3);
        x.play();
        c.chance(x, "odds(0) of 0", x.odds(0), 0, 1);
    }

    private static void count() {
        BarBehind x = Check.of("q4 g0000 l0000 t0000 b0000 g1111");
        x.row(0, 0);
        x.row(1, 3);
        x.row(2, 3);
        x.text(2, 0);
        x.play();
        x.slip(3, 1);
        x.slip(0, -1);
        x.image(1);
        int[] want = {4, 5, 3, 2, 2, 2, 3, 2, 1};
        for (int what = 0; what <= 8; what++) c.due("count(" + what + ")", x.count(what), want[what]);
        c.refused(x, "count(9)", () -> x.count(9), BarBehind.BAD);
        c.refused(x, "count(-1)", () -> x.count(-1), BarBehind.BAD);
    }

    private static void findings() {
        BarBehind x = new BarBehind();
        c.due("finding() before", x.finding(), 0);
        x.tear(0);
        x.tear(1);
        x.row(0, -1);
        c.due("finding()", x.finding(), 5);
        c.due("findings(1)", x.findings(1), 2);
        c.due("findings(5)", x.findings(5), 1);
        c.due("findings(2)", x.findings(2), 0);
        x.row(9, -1);
        x.row(0, 1);
        c.due("finding() stays", x.finding(), 5);
        c.refused(x, "findings(0)", () -> x.findings(0), BarBehind.BAD);
        c.refused(x, "findings(6)", () -> x.findings(6), BarBehind.BAD);
    }

    private static long fold(long... values) {
        long h = 17;
        for (long v : values) h = 31 * h + v;
        return h;
    }

    private static void digest() {
        BarBehind none = new BarBehind();
        c.due("digest() of a new object", none.digest(),
                fold(0, 0, 0, 0, 0, 0, 0, 0, 0, 0, -1, -1, -1, -1, -1, -1, -1, -1, -1, -1, -1, -1, -1));
        BarBehind x = Check.of("q2g12");
        x.row(1, 2);
        x.lay(1, 1, -5);
        x.text(3, 1);
        x.put(3, 0, 200);
        x.slip(1, -1);
        x.image(2);
        x.slip(1, 1);
        x.play();
        x.slip(0, 1);
        c.due("digest()", x.digest(), fold(2, 1, 4, 1, 1, 0, 1, 2, 1, 1, 3, 1, 2, 3, 2, 1, -1, -1, 1,
                -1, 2, 0, -5, -1, -1, -1, -1, 5, 113, 50, 103, 49, 50, -1, -1, 1, -56));
        long before = x.asked();
        x.digest();
        c.due("asked() behind digest()", x.asked(), before);
    }
}
