/** Promises 26 to 31 and 42: fits, odds, self, who, likely, began, aloud. */
public final class BeliefTest {
    private static final Check c = new Check("BeliefTest");

    public static void main(String[] args) {
        nothingPlayed();
        onePlayed();
        sureOfNobody();
        twoAhead();
        alike();
        noneFit();
        began();
        aloud();
        refused();
        c.end();
    }

    private static void nothingPlayed() {
        BarBehind x = Check.of("q3 b012");
        c.asked(x, "fits()", x.fits(), 125, 0);
        c.chance(x, "odds(2)", x.odds(2), 3, 5);
        c.chance(x, "self(2)", x.self(2), 21, 25);
        c.asked(x, "who()", x.who(), 0, 1);
        c.due("likely()", x.likely(), 62);
        c.asked(x, "aloud()", x.aloud(), 0, 25);
        c.asked(x, "began()", x.began(), 0, 0);
    }

    private static void onePlayed() {
        BarBehind x = Check.of("q2 u12 u34");
        x.play();
        c.asked(x, "fits()", x.fits(), 4, 12);
        c.chance(x, "odds(0)", x.odds(0), 1, 3);
        c.chance(x, "self(1)", x.self(1), 1, 3);
        c.asked(x, "who()", x.who(), 0, 3);
        c.due("likely()", x.likely(), 12);
        c.asked(x, "aloud()", x.aloud(), 0, 2);
        c.asked(x, "began()", x.began(), 2, 1);
    }

    private static void sureOfNobody() {
        BarBehind x = Check.of("q2 u12 u34");
        x.play();
        x.play();
        c.asked(x, "fits()", x.fits(), 1, 12);
        c.chance(x, "odds(1)", x.odds(1), 0, 1);
        c.chance(x, "self(0)", x.self(0), 0, 1);
        c.refused(x, "who()", x::who, BarBehind.NONE);
        c.due("likely()", x.likely(), 12);
        c.asked(x, "began()", x.began(), 2, 2);
    }

    private static void twoAhead() {
        BarBehind x = Check.of("q2 u33 l38 l48");
        x.slip(0, 1);
        x.slip(0, 1);
        c.due("play() of 4 and 3", x.play(), 1);
        c.asked(x, "who()", x.who(), 0, 4);
        c.due("likely()", x.likely(), 14);
        c.asked(x, "fits()", x.fits(), 1, 14);
        c.chance(x, "odds(0)", x.odds(0), 1, 1);
        c.found(x, "self(0)", () -> x.self(0), 4);
        c.chance(x, "self(1)", x.self(1), 1, 1);
    }

    private static BarBehind either() {
        BarBehind x = Check.of("q2 u33 l45");
        x.slip(1, 1);
        x.play();
        return x;
    }

    /** PLAYER 0 or 1 or both are a bar ahead: each call is the first one of its object. */
    private static void alike() {
        BarBehind likely = either();
        c.due("likely(), the first of alike ones", likely.likely(), 13);
        BarBehind who = either();
        c.asked(who, "who(), the first of alike ones", who.who(), 0, 3);
        BarBehind aloud = either();
        c.asked(aloud, "aloud(), the first of alike ones", aloud.aloud(), 0, 1);
        BarBehind odds = either();
        c.chance(odds, "odds(1)", odds.odds(1), 3, 5);
        BarBehind self = either();
        c.chance(self, "self(1)", self.self(1), 1, 1);
        BarBehind fits = either();
        c.asked(fits, "fits()", fits.fits(), 3, 13);
    }

    /** HEARD as 1, 0, 1: the first and the last are so with nobody OUT alone, the second is not. */
    private static BarBehind contrary() {
        BarBehind x = Check.of("q2 u01 u01 u01");
        x.odds(0);
        x.play();
        x.slip(0, -1);
        x.slip(0, -1);
        c.due("play() of nothing", x.play(), 0);
        x.slip(0, 1);
        x.slip(0, 1);
        c.due("play() of the last", x.play(), 1);
        return x;
    }

    private static void noneFit() {
        BarBehind x = contrary();
        c.asked(x, "fits()", x.fits(), 0, BarBehind.NONE);
        c.refused(x, "likely()", x::likely, BarBehind.NONE);
        c.found(x, "odds(0)", () -> x.odds(0), 4);
        c.found(x, "self(1)", () -> x.self(1), 4);
        c.found(x, "who()", x::who, 4);
        c.found(x, "aloud()", x::aloud, 4);
        c.asked(x, "began()", x.began(), 0, 0);
        c.refused(x, "odds(2)", () -> x.odds(2), BarBehind.BAD);
        BarBehind sure = Check.of("q2 u00 u11");
        sure.slip(0, -1);
        sure.play();
        c.due("play() of 0 and 1", sure.play(), 1);
        c.due("self(0) while another one can be OUT", sure.self(0), 1);
    }

    private static void began() {
        BarBehind x = Check.of("q2 g00 u11 u22 u33");
        x.play();
        x.play();
        x.slip(1, -1);
        c.due("play() of 2 and 1", x.play(), 1);
        // Any of the two can have slipped either way ahead of PLACE 2.
        c.asked(x, "began()", x.began(), 4, 4);
        x.play();
        // One who were ahead would play nothing on the last PLACE.
        c.asked(x, "began() behind the last", x.began(), 2, 4);
        x.anew(0);
        c.asked(x, "began() anew", x.began(), 0, 0);
        x.play();
        // Nothing is HEARD: one behind plays nothing on the first PLACE.
        c.asked(x, "began() ahead of the first", x.began(), 2, 1);
    }

    private static void aloud() {
        // PLAYER 1 rests and may be anywhere; of 0 and 2 just one is a bar behind.
        BarBehind x = Check.of("q3 u080 u181 u282");
        x.slip(0, -1);
        x.play();
        x.play();
        c.due("play() of 1 and 2", x.play(), 2);
        c.due("fits()", x.fits(), 10);
        c.asked(x, "aloud()", x.aloud(), 1, 2);
    }

    private static void refused() {
        BarBehind none = new BarBehind();
        c.refused(none, "fits()", none::fits, BarBehind.STATE);
        c.refused(none, "who()", none::who, BarBehind.STATE);
        c.refused(none, "likely()", none::likely, BarBehind.STATE);
        c.refused(none, "began()", none::began, BarBehind.STATE);
        c.refused(none, "aloud()", none::aloud, BarBehind.STATE);
        c.refused(none, "odds(0)", () -> none.odds(0), BarBehind.BAD);
        c.refused(none, "self(0)", () -> none.self(0), BarBehind.BAD);
        BarBehind x = Check.of("q2 b01");
        c.refused(x, "odds(-1)", () -> x.odds(-1), BarBehind.BAD);
        c.refused(x, "self(2)", () -> x.self(2), BarBehind.BAD);
    }
}
