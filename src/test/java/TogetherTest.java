/** Promises 37 to 39: together, rule, signs. */
public final class TogetherTest {
    private static final Check c = new Check("TogetherTest");
    private static final int NEVER = BarBehind.NONE;

    public static void main(String[] args) {
        // Of each RULE: in how many bars, and where.
        from(new int[] {0, 0, 0}, new int[] {0, 0, 0, 0, 0, 0}, new int[] {2, 2, 2, 2, 2, 2});
        from(new int[] {-2, -2}, new int[] {0, 0, 0, 0, 0, 0}, new int[] {0, 0, 0, 0, 0, 0});
        from(new int[] {1, 0, 0}, new int[] {NEVER, 1, 1, NEVER, 1, NEVER}, new int[] {0, 3, 2, 0, 2, 0});
        from(new int[] {2, 0, 0}, new int[] {NEVER, 1, 1, NEVER, 2, 1}, new int[] {0, 4, 2, 0, 2, 3});
        from(new int[] {2, 2, 0}, new int[] {NEVER, 1, 1, NEVER, 2, 1}, new int[] {0, 4, 4, 0, 4, 3});
        from(new int[] {2, -2}, new int[] {NEVER, 1, 1, 2, 4, 2}, new int[] {0, 4, 0, 2, 0, 2});
        from(new int[] {2, -2, 0}, new int[] {NEVER, 1, 1, NEVER, 4, 2}, new int[] {0, 4, 0, 0, 0, 2});
        from(new int[] {-1, 1, 1, 2}, new int[] {NEVER, 1, 1, NEVER, 2, NEVER}, new int[] {0, 1, 3, 0, 3, 0});
        rule();
        signs();
        refused();
        c.end();
    }

    private static BarBehind placed(int[] outs) {
        BarBehind x = Check.of("q" + outs.length + " b" + "0".repeat(outs.length));
        for (int p = 0; p < outs.length; p++) {
            for (int i = 0; i < Math.abs(outs[p]); i++) x.slip(p, Integer.signum(outs[p]));
        }
        return x;
    }

    private static void from(int[] outs, int[] bars, int[] where) {
        BarBehind x = placed(outs);
        for (int rule = 0; rule < 6; rule++) {
            int by = rule;
            String call = "together(" + rule + ") from " + java.util.Arrays.toString(outs);
            if (bars[rule] == NEVER) {
                c.refused(x, call, () -> x.together(by), NEVER);
            } else {
                c.asked(x, call, x.together(by), bars[rule], where[rule]);
            }
        }
        for (int p = 0; p < outs.length; p++) c.due("out(" + p + ") stays", x.out(p), outs[p] + 2);
    }

    private static void rule() {
        BarBehind home = placed(new int[] {1, 1, 1});
        c.asked(home, "rule() when together", home.rule(), 0, 0);
        BarBehind apart = placed(new int[] {2, 0, 0});
        c.asked(apart, "rule()", apart.rule(), 1, 1);
    }

    private static void signs() {
        int[] two = {5, 25, 25, 13, 25, 13};
        BarBehind x = placed(new int[] {1, -1});
        for (int rule = 0; rule < 6; rule++) {
            int by = rule;
            c.refused(x, "signs(" + rule + ") of two", () -> x.signs(by), two[rule]);
        }
        int[] four = {5, 625, 625, 13, 625, 349};
        BarBehind y = placed(new int[] {0, 0, 0, 0});
        for (int rule = 0; rule < 6; rule++) c.due("signs(" + rule + ") of four", y.signs(rule), four[rule]);
    }

    private static void refused() {
        BarBehind none = new BarBehind();
        c.refused(none, "together(0)", () -> none.together(0), BarBehind.STATE);
        c.refused(none, "together(6)", () -> none.together(6), BarBehind.BAD);
        c.refused(none, "together(-1)", () -> none.together(-1), BarBehind.BAD);
        c.refused(none, "rule()", none::rule, BarBehind.STATE);
        c.refused(none, "signs(5)", () -> none.signs(5), BarBehind.STATE);
        c.refused(none, "signs(6)", () -> none.signs(6), BarBehind.BAD);
        c.refused(none, "signs(-1)", () -> none.signs(-1), BarBehind.BAD);
    }
}
