/** Promises 15 to 25: play, slip, jump, anew, undo, here, out, hear, heard, image, restore. */
public final class PlayTest {
    private static final Check c = new Check("PlayTest");
    private static final String SIX = "q3 b017 u555 c067 l012 g334 t314";

    public static void main(String[] args) {
        play();
        slip();
        jump();
        anew();
        undo();
        here();
        out();
        hear();
        heard();
        evenings();
        full();
        c.end();
    }

    private static void play() {
        BarBehind x = Check.of(SIX);
        int[] plain = {5, 0, 4, 0, 6, 0};
        for (int i = 0; i < 6; i++) c.due("play() of " + i, x.play(), plain[i]);
        c.refused(x, "play() when OVER", x::play, BarBehind.STATE);
        BarBehind none = new BarBehind();
        c.refused(none, "play() without PLACES", none::play, BarBehind.STATE);
        BarBehind behind = Check.of(SIX);
        behind.slip(1, -1);
        int[] late = {0, 5, 0, 0, 7, 0};
        for (int i = 0; i < 6; i++) c.due("play() of " + i + ", one behind", behind.play(), late[i]);
        BarBehind ahead = Check.of(SIX);
        ahead.slip(2, 1);
        int[] early = {1, 6, 0, 0, 6, 0};
        for (int i = 0; i < 6; i++) c.due("play() of " + i + ", one ahead", ahead.play(), early[i]);
    }

    private static void slip() {
        BarBehind x = Check.of(SIX);
        c.due("slip(0, 1)", x.slip(0, 1), 3);
        c.due("slip(0, 1)", x.slip(0, 1), 4);
        c.refused(x, "slip(0, 1) once more", () -> x.slip(0, 1), BarBehind.STATE);
        c.due("slip(2, -1)", x.slip(2, -1), 1);
        c.due("slip(2, -1)", x.slip(2, -1), 0);
        c.refused(x, "slip(2, -1) once more", () -> x.slip(2, -1), BarBehind.STATE);
        c.due("slip(0, -1)", x.slip(0, -1), 3);
        c.refused(x, "slip(3, 1)", () -> x.slip(3, 1), BarBehind.BAD);
        c.refused(x, "slip(-1, 1)", () -> x.slip(-1, 1), BarBehind.BAD);
        c.refused(x, "slip(0, 0)", () -> x.slip(0, 0), BarBehind.BAD);
        c.refused(x, "slip(0, 2)", () -> x.slip(0, 2), BarBehind.BAD);
        c.refused(x, "slip(2, -2)", () -> x.slip(2, -2), BarBehind.BAD);
        c.due("count(2)", x.count(2), 5);
        c.due("count(3)", x.count(3), 2);
        for (int i = 0; i < 6; i++) x.play();
        c.due("slip(1, 1) when OVER", x.slip(1, 1), 3);
    }

    private static void jump() {
        BarBehind x = Check.of(SIX);
        x.slip(0, 1);
        x.slip(0, 1);
        x.slip(1, -1);
        x.slip(1, -1);
        c.due("jump(1, 0)", x.jump(1, 0), 8);
        c.due("out(1)", x.out(1), 4);
        c.due("jump(1, 0) again", x.jump(1, 0), 4);
        c.due("jump(0, 2)", x.jump(0, 2), 2);
        c.due("out(0)", x.out(0), 2);
        c.due("count(2)", x.count(2), 7);
        c.refused(x, "jump(0, 0)", () -> x.jump(0, 0), BarBehind.BAD);
        c.refused(x, "jump(0, 3)", () -> x.jump(0, 3), BarBehind.BAD);
        c.refused(x, "jump(3, 0)", () -> x.jump(3, 0), BarBehind.BAD);
        c.refused(x, "jump(-1, 0)", () -> x.jump(-1, 0), BarBehind.BAD);
        c.refused(x, "jump(0, -1)", () -> x.jump(0, -1), BarBehind.BAD);
    }

    private static void anew() {
        BarBehind x = Check.of("q2 b01 g00 b01 g11");
        x.play();
        x.slip(0, 1);
        c.due("anew(1)", x.anew(1), 3);
        c.asked(x, "here()", x.here(), 3, 0);
        c.due("out(0)", x.out(0), 2);
        c.due("heard(0)", x.heard(0), 0);
        c.due("anew(0)", x.anew(0), 1);
        c.due("count(2)", x.count(2), 4);
        c.refused(x, "anew(2)", () -> x.anew(2), BarBehind.BAD);
        c.refused(x, "anew(-1)", () -> x.anew(-1), BarBehind.BAD);
        for (int i = 0; i < 3; i++) x.play();
        c.due("anew(0) when OVER", x.anew(0), 1);
        c.due("play() goes on from there", x.play(), 0);
    }

    private static void undo() {
        BarBehind x = Check.of(SIX);
        long first = x.digest();
        x.play();
        x.slip(1, -1);
        long second = x.digest();
        x.play();
        x.anew(0);
        x.jump(0, 1);
        c.refused(x, "undo(6)", () -> x.undo(6), BarBehind.BAD);
        c.refused(x, "undo(-1)", () -> x.undo(-1), BarBehind.BAD);
        c.due("undo(5)", x.undo(5), 0);
        c.due("undo(2)", x.undo(2), 3);
        c.due("digest() as then", x.digest(), second);
        c.due("play() again", x.play(), 5);
        c.due("undo(0)", x.undo(0), 3);
        c.due("digest() as at first", x.digest(), first);
        BarBehind none = new BarBehind();
        c.due("undo(0) without PLACES", none.undo(0), 0);
        c.refused(none, "undo(1) without PLACES", () -> none.undo(1), BarBehind.BAD);
    }

    private static void here() {
        BarBehind x = Check.of(SIX);
        c.asked(x, "here()", x.here(), 0, 0);
        x.play();
        x.play();
        c.asked(x, "here() behind two", x.here(), 2, 2);
        x.anew(0);
        x.play();
        c.asked(x, "here() anew", x.here(), 5, 1);
        x.play();
        c.asked(x, "here() when OVER", x.here(), 6, 2);
        BarBehind none = new BarBehind();
        c.refused(none, "here() without PLACES", none::here, BarBehind.STATE);
    }

    private static void out() {
        BarBehind x = Check.of("q2 b01");
        c.due("out(0)", x.out(0), 2);
        x.slip(1, -1);
        c.due("out(1)", x.out(1), 1);
        c.refused(x, "out(2)", () -> x.out(2), BarBehind.BAD);
        c.refused(x, "out(-1)", () -> x.out(-1), BarBehind.BAD);
        BarBehind none = new BarBehind();
        c.refused(none, "out(0) without PLAYERS", () -> none.out(0), BarBehind.BAD);
    }

    private static void hear() {
        BarBehind x = Check.of("q2 b01 b71");
        c.refused(x, "hear() changes nothing", x::hear, 1);
        x.slip(0, 1);
        c.due("hear() of 7 and 1", x.hear(), 1);
        x.slip(1, 1);
        x.slip(1, 1);
        c.due("hear() of nothing", x.hear(), 0);
        x.play();
        x.play();
        c.refused(x, "hear() when OVER", x::hear, BarBehind.STATE);
        BarBehind none = new BarBehind();
        c.refused(none, "hear() without PLACES", none::hear, BarBehind.STATE);
    }

    private static void heard() {
        BarBehind x = Check.of(SIX);
        x.row(2, 40);
        x.play();
        x.play();
        x.play();
        c.due("heard(2)", x.heard(2), 3);
        int[] plain = {5, 0, 4};
        for (int i = 0; i < 3; i++) c.asked(x, "at(2, " + i + ")", x.at(2, i), 1, plain[i]);
        c.found(x, "at(2, 3): the ROW is new", () -> x.at(2, 3), 2);
        x.anew(0);
        x.play();
        c.due("heard(5) anew", x.heard(5), 1);
        c.asked(x, "at(5, 0)", x.at(5, 0), 1, 6);
        c.due("count(6)", x.count(6), 2);
        c.refused(x, "heard(6)", () -> x.heard(6), BarBehind.BAD);
        c.refused(x, "heard(-1)", () -> x.heard(-1), BarBehind.BAD);
    }

    private static void evenings() {
        BarBehind x = Check.of(SIX);
        x.play();
        x.slip(2, 1);
        c.due("image(0)", x.image(0), 2);
        x.play();
        c.due("image(2)", x.image(2), 3);
        c.due("count(8)", x.count(8), 2);
        x.anew(0);
        x.row(3, 1);
        c.due("restore(0)", x.restore(0), 2);
        c.asked(x, "here()", x.here(), 1, 1);
        c.due("out(2)", x.out(2), 3);
        c.due("ROWS are no part of an EVENING", x.count(6), 1);
        c.due("play() goes on", x.play(), 6);
        c.due("restore(0) again", x.restore(0), 2);
        c.due("restore(2)", x.restore(2), 3);
        x.undo(0);
        x.slip(0, 1);
        x.slip(0, -1);
        x.jump(0, 1);
        c.due("restore(2) over other DEEDS", x.restore(2), 3);
        c.asked(x, "here()", x.here(), 2, 2);
        c.due("undo(2) of a kept one", x.undo(2), 1);
        c.due("image(0) once more", x.image(0), 2);
        c.refused(x, "image(3)", () -> x.image(3), BarBehind.BAD);
        c.refused(x, "image(-1)", () -> x.image(-1), BarBehind.BAD);
        c.refused(x, "restore(3)", () -> x.restore(3), BarBehind.BAD);
        c.refused(x, "restore(-1)", () -> x.restore(-1), BarBehind.BAD);
        c.found(x, "restore(1)", () -> x.restore(1), 1);
        BarBehind none = new BarBehind();
        c.refused(none, "image(3) without PLACES", () -> none.image(3), BarBehind.BAD);
        c.refused(none, "image(0) without PLACES", () -> none.image(0), BarBehind.STATE);
        c.found(none, "restore(0) without PLACES", () -> none.restore(0), 1);
    }

    private static void full() {
        BarBehind x = Check.of("q2 b01 g00");
        for (int i = 0; i < 39; i++) x.jump(0, 1);
        c.due("the fortieth", x.slip(0, 1), 3);
        c.due("count(2)", x.count(2), 40);
        c.refused(x, "play()", x::play, BarBehind.FULL);
        c.refused(x, "slip(0, 1)", () -> x.slip(0, 1), BarBehind.FULL);
        c.refused(x, "slip(0, 2)", () -> x.slip(0, 2), BarBehind.BAD);
        c.refused(x, "jump(0, 1)", () -> x.jump(0, 1), BarBehind.FULL);
        c.refused(x, "jump(0, 0)", () -> x.jump(0, 0), BarBehind.BAD);
        c.refused(x, "anew(0)", () -> x.anew(0), BarBehind.FULL);
        c.refused(x, "anew(1)", () -> x.anew(1), BarBehind.BAD);
        c.refused(x, "lots(1, 1)", () -> x.lots(1, 1), 0);
        c.due("image(0)", x.image(0), 40);
        c.due("restore(0)", x.restore(0), 40);
        c.due("undo(37)", x.undo(37), 3);
        x.slip(0, 1);
        x.slip(0, 1);
        x.play();
        c.refused(x, "slip(0, 1) too far and FULL", () -> x.slip(0, 1), BarBehind.STATE);
        x.undo(38);
        x.play();
        x.play();
        c.refused(x, "play() OVER and FULL", x::play, BarBehind.STATE);
    }
}
