/** Promises 37 to 39, sentence by sentence, at their edges. */
final class EdgesOfGathering {
    private static final int NEVER = Sentences.NONE;
    private static final int[] NO_RULES = {-1, 6, Sentences.LEAST, Sentences.MOST};

    private EdgesOfGathering() {
    }

    static void hold(Sentences s) {
        holdingAndFollowing(s);
        mostAndNext(s);
        stepsAndEnds(s);
        together(s);
        togetherRefused(s);
        rule(s);
        signs(s);
    }

    private static Way from(int... outs) {
        return Way.piece("q" + outs.length + "b" + "0".repeat(outs.length)).outs(outs);
    }

    /** In how many bars by a RULE, and where (as it is told). */
    private static void meets(Sentences s, int rule, int bars, int where, int... outs) {
        String call = "together(" + rule + ") from " + java.util.Arrays.toString(outs);
        if (bars == NEVER) s.refused(from(outs), call, x -> x.together(rule), NEVER);
        else s.told(from(outs), call, x -> x.together(rule), bars, where);
    }

    private static void holdingAndFollowing(Sentences s) {
        s.says("37", "0 all hold");
        for (int d = -2; d <= 2; d++) meets(s, 0, 0, d + 2, d, d, d, d);
        meets(s, 0, NEVER, 0, 1, 0);
        meets(s, 0, NEVER, 0, 0, 0, 0, 1);
        s.says("37", "1 all go to where PLAYER 0 is");
        meets(s, 1, 1, 4, 2, -2);
        meets(s, 1, 1, 0, -2, 2, 2, 2);
        meets(s, 1, 1, 2, 0, 0, 0, 1);
        meets(s, 1, 0, 1, -1, -1);
    }

    private static void mostAndNext(Sentences s) {
        s.says("37", "2 to where most are (of alike many the least), who are there hold");
        meets(s, 2, 1, 4, -2, 2, 2);
        meets(s, 2, 1, 0, 2, -2);
        meets(s, 2, 1, 0, 2, 2, -2, -2);
        meets(s, 2, 1, 1, 2, 1, 0, -1);
        meets(s, 2, 1, 3, 1, -2, 1, 0);
        meets(s, 2, 0, 4, 2, 2);
        s.says("37", "3 each goes a bar towards the next one's place (the last one's next is PLAYER 0), all at once");
        meets(s, 3, 1, 3, 2, 0);
        meets(s, 3, 2, 2, 2, -2);
        meets(s, 3, NEVER, 0, 0, 1);
        meets(s, 3, NEVER, 0, 1, -2);
        meets(s, 3, NEVER, 0, 1, 0, 0);
        meets(s, 3, 1, 1, -2, 0, -2, 0);
        meets(s, 3, 2, 2, 2, -2, 2, -2);
        meets(s, 3, NEVER, 0, 2, 2, -2, -2);
        meets(s, 3, 0, 3, 1, 1, 1);
    }

    private static void stepsAndEnds(Sentences s) {
        s.says("37", "4 each goes a bar towards where most are");
        meets(s, 4, 4, 0, 2, -2, -2);
        meets(s, 4, 4, 4, 2, 2, -2);
        meets(s, 4, 1, 2, 1, 0, 0, -1);
        meets(s, 4, 4, 0, 2, -2);
        meets(s, 4, 3, 0, 1, 0, -1, -2);
        meets(s, 4, 2, 2, 2, 0, 0, -2);
        s.says("37", "5 the lowest and the highest place go a bar towards the others (all who are there), if they are unlike.");
        meets(s, 5, 1, 3, 2, 2, 0);
        meets(s, 5, 1, 3, 2, 0, 0);
        meets(s, 5, 1, 2, 1, -1);
        meets(s, 5, 2, 2, 2, -2, 0);
        meets(s, 5, 2, 2, -2, 2, 1, 0);
        meets(s, 5, 2, 2, -2, -2, 2, 2);
        meets(s, 5, NEVER, 0, 0, 1);
        meets(s, 5, NEVER, 0, 1, 0, 0);
        meets(s, 5, NEVER, 0, 2, -1);
        meets(s, 5, 0, 0, -2, -2);
    }

    private static void together(Sentences s) {
        s.says("37", "By a RULE, from as they are OUT, bar by bar");
        Way apart = from(2, -2, 0);
        for (int rule = 0; rule <= 5; rule++) {
            int by = rule;
            for (int p = 0; p < 3; p++) {
                int of = p;
                s.due(apart.then(x -> x.together(by)), "out(" + p + ") behind together(" + rule + ")", x -> x.out(of),
                        new int[] {4, 0, 2}[p]);
            }
            s.told(apart.then(x -> x.undo(0)), "together(" + rule + ") when nobody is OUT",
                    x -> x.together(by), 0, 2);
        }
        s.told(Way.piece("q2g00").outs(2, -2).then(x -> x.anew(0)), "together(0) anew", x -> x.together(0), 0, 2);
        s.told(Way.piece("q2b00").outs(2).plays(1), "together(1) when OVER", x -> x.together(1), 1, 4);
        s.says("37", "In how many bars (0 .. 20) all are at one");
        for (int rule = 0; rule <= 5; rule++) meets(s, rule, 0, 3, 1, 1);
        meets(s, 4, 4, 0, 2, -2, -2, -2);
        s.says("37", "where (-2 .. 2, and 2 more) by asked().");
        for (int d = -2; d <= 2; d++) for (int rule = 0; rule <= 5; rule++) meets(s, rule, 0, d + 2, d, d, d);
    }

    private static void togetherRefused(Sentences s) {
        s.says("37", "NONE: not in these.");
        meets(s, 0, NEVER, 0, 2, -2);
        meets(s, 3, NEVER, 0, 2, 2, 0);
        meets(s, 5, NEVER, 0, 2, 1);
        s.says("37", "BAD");
        for (int rule : NO_RULES) {
            s.refused(from(1, 0), "together(" + rule + ")", x -> x.together(rule), Sentences.BAD);
            s.refused(Way.NEW, "together(" + rule + ") without PLACES", x -> x.together(rule), Sentences.BAD);
        }
        s.says("37", "STATE: no PLACES.");
        for (int rule = 0; rule <= 5; rule++) {
            int by = rule;
            s.refused(Way.NEW, "together(" + rule + ")", x -> x.together(by), Sentences.STATE);
        }
    }

    private static void rule(Sentences s) {
        s.says("38", "The RULE by which they are soonest (the first)");
        s.due(from(0, 0), "rule() when together", BarBehind::rule, 0);
        s.due(from(-2, -2, -2, -2), "rule() when together", BarBehind::rule, 0);
        s.due(from(0, 1), "rule()", BarBehind::rule, 1);
        s.due(from(2, 0, 0), "rule() when 2 and 5 are as soon", BarBehind::rule, 1);
        s.says("38", "in how many bars by asked().");
        s.told(from(2, 2), "rule() when together", BarBehind::rule, 0, 0);
        s.told(from(2, -2, 1, 0), "rule()", BarBehind::rule, 1, 1);
        s.says("38", "STATE: no PLACES.");
        s.refused(Way.NEW, "rule()", BarBehind::rule, Sentences.STATE);
    }

    private static void signs(Sentences s) {
        s.says("39", "From how many OUTS (of all) they come together by a RULE within 20 bars.");
        int[][] many = {{5, 25, 25, 13, 25, 13}, {5, 125, 125, 5, 125, 65}, {5, 625, 625, 13, 625, 349}};
        for (int rule = 0; rule <= 5; rule++) {
            int by = rule;
            s.refused(from(0, 0), "signs(" + rule + ") of two", x -> x.signs(by), many[0][rule]);
            s.refused(from(2, -1, 0), "signs(" + rule + ") of three", x -> x.signs(by), many[1][rule]);
            s.refused(from(1, 0, 0, -2), "signs(" + rule + ") of four", x -> x.signs(by), many[2][rule]);
        }
        s.says("39", "BAD");
        for (int rule : NO_RULES) {
            s.refused(from(0, 0), "signs(" + rule + ")", x -> x.signs(rule), Sentences.BAD);
            s.refused(Way.NEW, "signs(" + rule + ") without PLACES", x -> x.signs(rule), Sentences.BAD);
        }
        s.says("39", "STATE: no PLACES.");
        for (int rule = 0; rule <= 5; rule++) {
            int by = rule;
            s.refused(Way.NEW, "signs(" + rule + ")", x -> x.signs(by), Sentences.STATE);
        }
    }
}
