/** Promises 8 to 10: text, put, fault. */
public final class TextsTest {
    private static final Check c = new Check("TextsTest");

    public static void main(String[] args) {
        text();
        put();
        fault();
        c.end();
    }

    private static void text() {
        BarBehind x = new BarBehind();
        c.due("text(0, 0)", x.text(0, 0), 0);
        c.due("text(3, 80)", x.text(3, 80), 80);
        c.due("count(7)", x.count(7), 2);
        c.due("put(3, 79, 65)", x.put(3, 79, 65), 1032);
        c.due("text(3, 80) again", x.text(3, 80), 80);
        c.due("put(3, 79, 65) anew", x.put(3, 79, 65), 1032);
        c.refused(x, "text(4, 1)", () -> x.text(4, 1), BarBehind.BAD);
        c.refused(x, "text(-1, 1)", () -> x.text(-1, 1), BarBehind.BAD);
        c.refused(x, "text(0, 81)", () -> x.text(0, 81), BarBehind.BAD);
        c.refused(x, "text(4, -1)", () -> x.text(4, -1), BarBehind.BAD);
        c.found(x, "text(3, -1)", () -> x.text(3, -1), 5);
    }

    private static void put() {
        BarBehind x = new BarBehind();
        x.text(1, 2);
        c.due("put(1, 0, 127)", x.put(1, 0, 127), 1032);
        c.due("put(1, 0, 128)", x.put(1, 0, 128), 1127);
        c.due("put(1, 0, 255)", x.put(1, 0, 255), 872);
        c.due("put(1, 0, 256 + 7)", x.put(1, 0, 256 + 7), 999);
        c.due("put(1, 0, 0)", x.put(1, 0, 0), 1007);
        c.due("put(1, 1, 0)", x.put(1, 1, 0), 1032);
        c.refused(x, "put(4, 0, 1)", () -> x.put(4, 0, 1), BarBehind.BAD);
        c.refused(x, "put(-1, 0, 1)", () -> x.put(-1, 0, 1), BarBehind.BAD);
        c.found(x, "put(0, 0, 1)", () -> x.put(0, 0, 1), 1);
        c.found(x, "put(1, 2, 1)", () -> x.put(1, 2, 1), 2);
        c.found(x, "put(1, -1, 1)", () -> x.put(1, -1, 1), 2);
    }

    private static void fault() {
        String fourteen = "q2" + "b01".repeat(14);
        at("", 0);
        at("   ", 3);
        at("x", 0);
        at("  Q2", 2);
        at("q", 1);
        at("q1", 1);
        at("q5", 1);
        at("q 2", 1);
        at("q2", 2);
        at("q2  ", 4);
        at("q2x", 2);
        at("q22", 2);
        at("q2 B01", 3);
        at("q2b", 3);
        at("q2b0", 4);
        at("q2b 01", 3);
        at("q2b0 1", 4);
        at("q2b0/", 4);
        at("q2b0:", 4);
        at("q2b01x", 5);
        at("q2b012", 5);
        at("q3b012u", 7);
        at("q4b012", 6);
        at("q2b01", BarBehind.NONE);
        at("  q3  b012u999  l888g777 t000 c123 ", BarBehind.NONE);
        at("q4 b0123", BarBehind.NONE);
        at(fourteen, BarBehind.NONE);
        at(fourteen + "  ", BarBehind.NONE);
        at(fourteen + "b01", 44);
        at(fourteen + " b01", 45);
        at(fourteen + "z", 44);
        at("q2b01" + (char) 233, 5);
        BarBehind x = new BarBehind();
        Check.write(x, 2, "q2b01");
        c.due("a sign cut to a byte", x.put(2, 2, 256 + 'u'), 1098);
        c.due("fault(2)", x.fault(2), BarBehind.NONE);
        c.refused(x, "fault(2) changes nothing", () -> x.fault(2), BarBehind.NONE);
        c.refused(x, "fault(4)", () -> x.fault(4), BarBehind.BAD);
        c.refused(x, "fault(-1)", () -> x.fault(-1), BarBehind.BAD);
        c.found(x, "fault(0)", () -> x.fault(0), 1);
    }

    private static void at(String signs, int want) {
        BarBehind x = new BarBehind();
        Check.write(x, 3, signs);
        c.due("fault of '" + signs + "'", x.fault(3), want);
        c.due("piece of '" + signs + "'", x.piece(3) > 0 ? 1 : 0, want == BarBehind.NONE ? 1 : 0);
    }
}
