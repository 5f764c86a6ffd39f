/** Promises 40, 41 and 43: line, letter, lots. */
public final class StopTest {
    private static final Check c = new Check("StopTest");
    private static final String SIX = "q3 b017 u555 c067 l012 g334 t314";

    public static void main(String[] args) {
        line();
        letter();
        lots();
        c.end();
    }

    private static void line() {
        BarBehind x = Check.of(SIX);
        c.asked(x, "line() with nobody OUT", x.line(), 0, 0);
        x.slip(1, -1);
        // -2, 2, -1, 0 more on the PLACES 0 to 3.
        c.asked(x, "line() below 0", x.line(), 0, 0);
        x.play();
        c.asked(x, "line() at PLACE 1", x.line(), 1, 1);
        x.play();
        x.play();
        c.asked(x, "line() at PLACE 3", x.line(), 0, 3);
        x.play();
        c.asked(x, "line() at a LETTER", x.line(), 1, 0);
        x.play();
        c.asked(x, "line() behind a LETTER", x.line(), 0, 1);
        x.play();
        c.refused(x, "line() when OVER", x::line, BarBehind.STATE);
        BarBehind none = new BarBehind();
        c.refused(none, "line() without PLACES", none::line, BarBehind.STATE);
        BarBehind next = Check.of("q2 g00 u11 g22 u33");
        next.slip(0, 1);
        c.asked(next, "line() from a LETTER to the next", next.line(), 2, 0);
    }

    private static void letter() {
        BarBehind x = Check.of("q2 g00 b00 g00 b00 b00 g00");
        c.asked(x, "letter() here", x.letter(), 0, 0);
        x.play();
        c.asked(x, "letter() of alike ones", x.letter(), 0, 1);
        x.play();
        x.play();
        c.asked(x, "letter() behind", x.letter(), 1, 1);
        x.play();
        c.asked(x, "letter() ahead", x.letter(), 2, 1);
        x.play();
        x.play();
        c.asked(x, "letter() when OVER", x.letter(), 2, 1);
        BarBehind farthest = Check.of("q2 g00" + "b00".repeat(13));
        for (int i = 0; i < 14; i++) farthest.play();
        c.asked(farthest, "letter() from the farthest", farthest.letter(), 0, 14);
        BarBehind plain = Check.of("q2 b00");
        c.refused(plain, "letter() without LETTERS", plain::letter, BarBehind.NONE);
        BarBehind none = new BarBehind();
        c.refused(none, "letter() without PLACES", none::letter, BarBehind.STATE);
    }

    // From seed 1 come 48271, 182605794, 1291394886, 1914720637; from seed 2 comes 96542.
    private static void lots() {
        BarBehind x = Check.of("q2 b01 b01 b01 b01");
        c.due("lots(3, 1)", x.lots(3, 1), 3);
        c.due("count(2)", x.count(2), 3);
        c.due("lots(20, 1) to the end", x.lots(20, 1), 1);
        c.refused(x, "lots(1, 1) when OVER", () -> x.lots(1, 1), BarBehind.STATE);
        BarBehind tied = Check.of("q2 t01 b01");
        c.due("lots(1, 1) on a TIED", tied.lots(1, 1), 1);
        c.due("out(1)", tied.out(1), 3);
        c.due("count(2)", tied.count(2), 2);
        BarBehind three = Check.of("q3 b012 b012 b012");
        for (int i = 1; i >= 0; i--) {
            c.due("lots(1, 2)", three.lots(1, 2), 1);
            c.due("out(2)", three.out(2), i);
        }
        c.due("lots(1, 2) of one who can't slip", three.lots(1, 2), 1);
        c.due("count(2)", three.count(2), 5);
        BarBehind last = Check.of("q2 b01 b01");
        for (int i = 0; i < 39; i++) last.jump(0, 1);
        c.due("lots(1, 2) with a slip as the fortieth", last.lots(1, 2), 0);
        c.due("out(0)", last.out(0), 1);
        c.due("undo(39)", last.undo(39), 1);
        c.due("lots(2, 1) with a PLACE as the fortieth", last.lots(2, 1), 1);
        c.due("count(2)", last.count(2), 40);
        BarBehind none = new BarBehind();
        c.refused(none, "lots(1, 1) without PLACES", () -> none.lots(1, 1), BarBehind.STATE);
        c.refused(none, "lots(0, 1)", () -> none.lots(0, 1), BarBehind.BAD);
        c.refused(none, "lots(21, 1)", () -> none.lots(21, 1), BarBehind.BAD);
        c.refused(none, "lots(1, 0)", () -> none.lots(1, 0), BarBehind.BAD);
        c.refused(none, "lots(1, -1)", () -> none.lots(1, -1), BarBehind.BAD);
        c.refused(none, "lots(1, max)", () -> none.lots(1, Integer.MAX_VALUE), BarBehind.BAD);
        BarBehind great = Check.of("q2 b01");
        c.due("lots(1, 2147483646)", great.lots(1, 2147483646), 1);
    }
}
