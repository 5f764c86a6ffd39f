/** Promises 11 to 14: piece, place, note, mark. */
public final class PieceTest {
    private static final Check c = new Check("PieceTest");
    private static final String SIX = "q3 b017 u555 c067 l012 g334 t314";

    public static void main(String[] args) {
        piece();
        place();
        note();
        mark();
        c.end();
    }

    private static void piece() {
        BarBehind x = Check.of(SIX);
        c.due("count(0)", x.count(0), 3);
        c.due("count(1)", x.count(1), 6);
        x.play();
        x.slip(0, 1);
        x.image(1);
        Check.write(x, 1, "q2 b0");
        c.refused(x, "piece(1) with a FAULT", () -> x.piece(1), BarBehind.STATE);
        c.refused(x, "piece(4)", () -> x.piece(4), BarBehind.BAD);
        c.refused(x, "piece(-1)", () -> x.piece(-1), BarBehind.BAD);
        c.found(x, "piece(2)", () -> x.piece(2), 1);
        c.due("piece(0) anew", x.piece(0), 6);
        c.asked(x, "here()", x.here(), 0, 0);
        c.due("out(0)", x.out(0), 2);
        c.due("count(2)", x.count(2), 0);
        c.due("count(8)", x.count(8), 0);
        c.found(x, "restore(1)", () -> x.restore(1), 1);
        x.text(0, 0);
        c.due("the PIECE stays when its TEXT goes", x.note(1, 0), 1);
    }

    private static void place() {
        BarBehind x = Check.of(SIX);
        int[] kinds = {0, 1, 5, 2, 3, 4};
        int[] pairs = {5, 0, 4, 0, 6, 0};
        for (int i = 0; i < 6; i++) {
            c.asked(x, "place(" + i + ", 0)", x.place(i, 0), 1, kinds[i]);
            c.asked(x, "place(" + i + ", 1)", x.place(i, 1), 1, pairs[i]);
            c.asked(x, "place(" + i + ", 2)", x.place(i, 2), 1, 3);
        }
        x.slip(1, 1);
        c.asked(x, "place(0, 1) as if nobody were OUT", x.place(0, 1), 1, 5);
        c.refused(x, "place(6, 0)", () -> x.place(6, 0), BarBehind.BAD);
        c.refused(x, "place(-1, 0)", () -> x.place(-1, 0), BarBehind.BAD);
        c.refused(x, "place(0, 3)", () -> x.place(0, 3), BarBehind.BAD);
        c.refused(x, "place(0, -1)", () -> x.place(0, -1), BarBehind.BAD);
        BarBehind four = Check.of("q4 b0167 b8906 u8900 c0167");
        c.asked(four, "all PAIRS of four", four.place(0, 1), 1, 1 | 2 | 16 | 32);
        c.asked(four, "RESTS do not CLASH", four.place(1, 1), 1, 32);
        c.asked(four, "RESTS do not sound", four.place(1, 2), 1, 2);
        c.asked(four, "the same NOTE twice sounds twice", four.place(2, 2), 1, 2);
        c.asked(four, "a CHANCE of four", four.place(3, 1), 1, 1 | 32);
        BarBehind none = new BarBehind();
        c.refused(none, "place(0, 0) without PLACES", () -> none.place(0, 0), BarBehind.BAD);
    }

    private static void note() {
        BarBehind x = Check.of("q2 b79 b80");
        c.due("note(0, 0)", x.note(0, 0), 7);
        c.due("note(1, 0)", x.note(1, 0), 9);
        c.due("note(0, 1)", x.note(0, 1), 8);
        c.due("note(1, 1)", x.note(1, 1), 0);
        c.refused(x, "note(2, 0)", () -> x.note(2, 0), BarBehind.BAD);
        c.refused(x, "note(-1, 0)", () -> x.note(-1, 0), BarBehind.BAD);
        c.refused(x, "note(0, 2)", () -> x.note(0, 2), BarBehind.BAD);
        c.refused(x, "note(0, -1)", () -> x.note(0, -1), BarBehind.BAD);
    }

    private static void mark() {
        BarBehind x = Check.of(SIX);
        c.due("a UNISON of one NOTE", x.mark(1, 1), 1);
        c.due("a LETTER is a UNISON", x.mark(4, 1), 0);
        c.due("a LONG", x.mark(3, 2), 3);
        c.due("a TIED is a LONG", x.mark(5, 2), 4);
        c.due("a LETTER", x.mark(4, 3), 0);
        c.due("a TIED", x.mark(5, 4), 2);
        c.due("a CHANCE", x.mark(2, 5), 2);
        c.refused(x, "mark(1, 0)", () -> x.mark(1, 0), BarBehind.BAD);
        c.refused(x, "mark(1, 6)", () -> x.mark(1, 6), BarBehind.BAD);
        c.refused(x, "mark(6, 1)", () -> x.mark(6, 1), BarBehind.BAD);
        c.refused(x, "mark(-1, 1)", () -> x.mark(-1, 1), BarBehind.BAD);
        int[][] unlike = {{0, 1}, {0, 2}, {0, 5}, {1, 2}, {1, 3}, {2, 1}, {3, 1}, {3, 4}, {4, 2}, {5, 3}, {5, 5}};
        for (int[] pair : unlike) {
            c.found(x, "mark(" + pair[0] + ", " + pair[1] + ")", () -> x.mark(pair[0], pair[1]), 3);
        }
        BarBehind edges = Check.of("q3 t000 g898 u811 u801 g999 t898 t898");
        c.due("a TIED on PLACE 0", edges.mark(0, 4), 0);
        c.due("a LONG on PLACE 0", edges.mark(0, 2), 0);
        c.due("nothing sounds", edges.mark(1, 1), 1);
        c.due("one NOTE and a REST", edges.mark(2, 1), 1);
        c.due("two NOTES and a REST", edges.mark(3, 1), 0);
        c.due("the second LETTER", edges.mark(4, 3), 1);
        c.due("RESTS are not tied", edges.mark(6, 4), 0);
        c.due("LONG ones ahead do not count", edges.mark(6, 2), 4);
    }
}
