/** Promises 1 to 7: a new object, row, lay, at, tear, copy, mean. */
public final class RowsTest {
    private static final Check c = new Check("RowsTest");

    public static void main(String[] args) {
        newObject();
        row();
        layAndAt();
        tear();
        copy();
        mean();
        c.end();
    }

    private static void newObject() {
        BarBehind x = new BarBehind();
        for (int what = 0; what <= 8; what++) c.due("count(" + what + ")", x.count(what), 0);
        c.due("asked()", x.asked(), 0);
        c.due("upper()", x.upper(), 0);
        c.due("lower()", x.lower(), 1);
        c.due("finding()", x.finding(), 0);
        for (int f = 1; f <= 5; f++) c.due("findings(" + f + ")", x.findings(f), 0);
        for (int r = 0; r < 6; r++) {
            int row = r;
            c.found(x, "at(" + r + ", 0)", () -> x.at(row, 0), 1);
        }
        for (int t = 0; t < 4; t++) {
            int text = t;
            c.found(x, "fault(" + t + ")", () -> x.fault(text), 1);
        }
    }

    private static void row() {
        BarBehind x = new BarBehind();
        c.due("row(0, 0)", x.row(0, 0), 0);
        c.due("row(5, 40)", x.row(5, 40), 40);
        c.due("count(6)", x.count(6), 2);
        c.asked(x, "at(5, 39)", x.at(5, 39), 1, 0);
        x.lay(5, 39, 7);
        c.due("row(5, 40) again", x.row(5, 40), 40);
        c.asked(x, "at(5, 39) anew", x.at(5, 39), 1, 0);
        c.refused(x, "row(6, 1)", () -> x.row(6, 1), BarBehind.BAD);
        c.refused(x, "row(-1, 1)", () -> x.row(-1, 1), BarBehind.BAD);
        c.refused(x, "row(5, 41)", () -> x.row(5, 41), BarBehind.BAD);
        c.refused(x, "row(6, -1)", () -> x.row(6, -1), BarBehind.BAD);
        c.found(x, "row(5, -1)", () -> x.row(5, -1), 5);
        c.found(x, "row(0, min)", () -> x.row(0, Integer.MIN_VALUE), 5);
        x.row(5, 3);
        x.row(5, 40);
        c.asked(x, "at(5, 3) of a grown row", x.at(5, 3), 1, 0);
    }

    private static void layAndAt() {
        BarBehind x = new BarBehind();
        x.row(2, 3);
        c.asked(x, "lay(2, 1, 9)", x.lay(2, 1, 9), 1, 0);
        c.asked(x, "lay(2, 1, min)", x.lay(2, 1, Integer.MIN_VALUE), 1, 9);
        c.asked(x, "at(2, 1)", x.at(2, 1), 1, Integer.MIN_VALUE);
        c.asked(x, "at(2, 0)", x.at(2, 0), 1, 0);
        c.refused(x, "lay(6, 0, 1)", () -> x.lay(6, 0, 1), BarBehind.BAD);
        c.refused(x, "at(-1, 0)", () -> x.at(-1, 0), BarBehind.BAD);
        c.found(x, "lay(3, 9, 1)", () -> x.lay(3, 9, 1), 1);
        c.found(x, "at(3, -1)", () -> x.at(3, -1), 1);
        c.found(x, "lay(2, 3, 1)", () -> x.lay(2, 3, 1), 2);
        c.found(x, "lay(2, -1, 1)", () -> x.lay(2, -1, 1), 2);
        c.found(x, "at(2, 3)", () -> x.at(2, 3), 2);
        c.found(x, "at(2, max)", () -> x.at(2, Integer.MAX_VALUE), 2);
        c.due("findings(1)", x.findings(1), 2);
        c.due("findings(2)", x.findings(2), 4);
    }

    private static void tear() {
        BarBehind x = new BarBehind();
        x.row(0, 1);
        c.due("tear(0)", x.tear(0), 1);
        c.due("count(6)", x.count(6), 0);
        c.found(x, "tear(0) again", () -> x.tear(0), 1);
        c.found(x, "at(0, 0)", () -> x.at(0, 0), 1);
        c.refused(x, "tear(6)", () -> x.tear(6), BarBehind.BAD);
        c.refused(x, "tear(-1)", () -> x.tear(-1), BarBehind.BAD);
    }

    private static void copy() {
        BarBehind x = new BarBehind();
        x.row(0, 5);
        x.row(1, 3);
        for (int i = 0; i < 5; i++) x.lay(0, i, i + 1);
        c.due("copy(0, 0, 0, 1, 4)", x.copy(0, 0, 0, 1, 4), 1);
        int[] forward = {1, 1, 2, 3, 4};
        for (int i = 0; i < 5; i++) c.asked(x, "at(0, " + i + ")", x.at(0, i), 1, forward[i]);
        c.due("copy(0, 1, 0, 0, 4)", x.copy(0, 1, 0, 0, 4), 1);
        int[] back = {1, 2, 3, 4, 4};
        for (int i = 0; i < 5; i++) c.asked(x, "at(0, " + i + ")", x.at(0, i), 1, back[i]);
        c.due("copy(0, 3, 1, 1, 2)", x.copy(0, 3, 1, 1, 2), 1);
        c.asked(x, "at(1, 0)", x.at(1, 0), 1, 0);
        c.asked(x, "at(1, 2)", x.at(1, 2), 1, 4);
        c.due("copy(0, 5, 1, 3, 0)", x.copy(0, 5, 1, 3, 0), 1);
        c.refused(x, "copy(6, 0, 0, 0, -1)", () -> x.copy(6, 0, 0, 0, -1), BarBehind.BAD);
        c.refused(x, "copy(0, 0, -1, 0, 0)", () -> x.copy(0, 0, -1, 0, 0), BarBehind.BAD);
        c.found(x, "copy(0, 0, 1, 0, -1)", () -> x.copy(0, 0, 1, 0, -1), 5);
        c.found(x, "copy(5, 0, 1, 0, -1)", () -> x.copy(5, 0, 1, 0, -1), 5);
        c.found(x, "copy(5, 0, 1, 9, 0)", () -> x.copy(5, 0, 1, 9, 0), 1);
        c.found(x, "copy(0, 9, 5, 0, 0)", () -> x.copy(0, 9, 5, 0, 0), 1);
        c.found(x, "copy(0, 0, 1, 0, 4)", () -> x.copy(0, 0, 1, 0, 4), 2);
        c.found(x, "copy(1, 0, 0, 0, 4)", () -> x.copy(1, 0, 0, 0, 4), 2);
        c.found(x, "copy(0, -1, 1, 0, 1)", () -> x.copy(0, -1, 1, 0, 1), 2);
        c.found(x, "copy(0, 0, 1, -1, 1)", () -> x.copy(0, 0, 1, -1, 1), 2);
        c.found(x, "copy(0, 6, 1, 0, 0)", () -> x.copy(0, 6, 1, 0, 0), 2);
        c.found(x, "copy(0, max, 1, 0, max)",
                () -> x.copy(0, Integer.MAX_VALUE, 1, 0, Integer.MAX_VALUE), 2);
    }

    private static void mean() {
        BarBehind x = new BarBehind();
        x.row(0, 2);
        x.lay(0, 0, 3);
        x.lay(0, 1, 4);
        c.asked(x, "mean of 3, 4", x.mean(0), 1, 3);
        x.lay(0, 0, -3);
        x.lay(0, 1, -4);
        c.asked(x, "mean of -3, -4", x.mean(0), 1, -3);
        x.lay(0, 0, Integer.MAX_VALUE);
        x.lay(0, 1, Integer.MAX_VALUE);
        c.asked(x, "mean of the greatest", x.mean(0), 1, Integer.MAX_VALUE);
        x.row(1, 0);
        c.found(x, "mean(1)", () -> x.mean(1), 4);
        c.found(x, "mean(2)", () -> x.mean(2), 1);
        c.refused(x, "mean(6)", () -> x.mean(6), BarBehind.BAD);
    }
}
