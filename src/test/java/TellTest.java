/** Promises 32 to 36: tells, best, hides, fewest, modern. */
public final class TellTest {
    private static final Check c = new Check("TellTest");

    public static void main(String[] args) {
        tells();
        best();
        hides();
        fewest();
        modern();
        c.end();
    }

    private static void tells() {
        BarBehind x = Check.of("q2 b01 l01 u88");
        c.due("tells(0)", x.tells(0), 2);
        c.due("tells(1) of a LONG", x.tells(1), 1);
        c.due("tells(2)", x.tells(2), 2);
        x.slip(0, 1);
        c.refused(x, "tells(0), whoever is OUT now", () -> x.tells(0), 2);
        c.refused(x, "tells(3)", () -> x.tells(3), BarBehind.BAD);
        c.refused(x, "tells(-1)", () -> x.tells(-1), BarBehind.BAD);
        BarBehind none = new BarBehind();
        c.refused(none, "tells(0)", () -> none.tells(0), BarBehind.BAD);
        BarBehind three = Check.of("q3 u001");
        // All three sound or not: nothing, 0 and 2, 1 and 2, or both of these.
        c.due("tells(0) of three", three.tells(0), 4);
    }

    private static void best() {
        BarBehind x = Check.of("q2 l01 b01 u01");
        c.asked(x, "best()", x.best(), 1, 2);
        BarBehind quiet = Check.of("q2 l01 t88");
        c.asked(quiet, "best() of LONG ones", quiet.best(), 0, 1);
        BarBehind none = new BarBehind();
        c.refused(none, "best()", none::best, BarBehind.STATE);
    }

    private static void hides() {
        BarBehind x = Check.of("q2 u12 u34 l55");
        c.due("hides(0, -1)", x.hides(0, -1), 6);
        c.due("hides(0, 1)", x.hides(0, 1), 7);
        c.due("hides(0, -2)", x.hides(0, -2), 4);
        c.due("hides(1, 2)", x.hides(1, 2), 5);
        x.slip(1, 1);
        c.refused(x, "hides(0, -1) of one alone", () -> x.hides(0, -1), 6);
        c.refused(x, "hides(0, 0)", () -> x.hides(0, 0), BarBehind.BAD);
        c.refused(x, "hides(0, 3)", () -> x.hides(0, 3), BarBehind.BAD);
        c.refused(x, "hides(0, -3)", () -> x.hides(0, -3), BarBehind.BAD);
        c.refused(x, "hides(2, 1)", () -> x.hides(2, 1), BarBehind.BAD);
        c.refused(x, "hides(-1, 1)", () -> x.hides(-1, 1), BarBehind.BAD);
    }

    private static void fewest() {
        BarBehind hidden = Check.of("q2 u12 u34 l55");
        c.refused(hidden, "fewest()", hidden::fewest, BarBehind.NONE);
        BarBehind one = Check.of("q2 u11 u22 u33");
        c.asked(one, "fewest() of one", one.fewest(), 1, 2);
        BarBehind two = Check.of("q2 u11 u22");
        c.asked(two, "fewest() of two", two.fewest(), 2, 3);
        // PLACES 1, 2 and 3 tell alike: the least of the sets is told.
        BarBehind many = Check.of("q2 l11 u22 u33 u44");
        c.asked(many, "fewest() of many", many.fewest(), 1, 2);
        fewestOfThree();
        // Nobody else sounds when PLAYER 2 does, so that one is never HEARD.
        BarBehind lonely = Check.of("q3 b018 b018 b884 b018");
        c.due("fewest() of one never HEARD", lonely.fewest(), BarBehind.NONE);
        BarBehind none = new BarBehind();
        c.refused(none, "fewest()", none::fewest, BarBehind.STATE);
    }

    private static void fewestOfThree() {
        // Of 0 and 1 one behind is HEARD on PLACE 1 alone, one ahead on 0; of 2 and 3 either on 3.
        BarBehind three = Check.of("q4 u1188 u2288 u8888 u8801");
        c.asked(three, "fewest() of three", three.fewest(), 3, 11);
        BarBehind four = Check.of("q4 u1188 u2288 u8888 u8811 u8822");
        c.refused(four, "fewest() of four", four::fewest, BarBehind.NONE);
    }

    private static void modern() {
        BarBehind x = Check.of("q2 b01 b12");
        c.asked(x, "modern()", x.modern(), 3, 2);
        BarBehind three = Check.of("q3 b017 u555 c067 l012 g334 t314");
        c.asked(three, "modern() of three", three.modern(), 21, 0);
        three.slip(1, 1);
        c.asked(three, "modern() though one is OUT", three.modern(), 21, 0);
        BarBehind late = Check.of("q2 b88 b28 b01");
        c.asked(late, "modern() where one a bar behind CLASHES, too", late.modern(), 4, 0);
        BarBehind none = new BarBehind();
        c.asked(none, "modern() without PLACES", none.modern(), 0, 0);
    }
}
