/** The Terms that are of no one call: how often an object is used, how it refuses, and what that changes. */
final class EdgesOfTerms {
    /** ROWS, TEXTS, kept EVENINGS, DEEDS of each kind, chances, FINDINGS of each number: much that could change. */
    private static final Way RICH = ((Way) x -> x.row(0, 3)).then(x -> x.lay(0, 2, -7)).then(x -> x.row(2, 0))
            .then(x -> x.row(5, 40)).then(x -> x.lay(5, 39, 9)).then(Way.text(1, "q2 b0")).then(x -> x.text(2, 0))
            .then(Way.piece("q4 b0246 u0135 c4444 g1234 t1534 g7777 b0167 c0167 b8902 u5553 g2222 b3579"))
            .then(x -> x.play()).then(x -> x.slip(2, -1)).then(x -> x.play()).then(x -> x.image(0))
            .then(x -> x.slip(0, 1)).then(x -> x.jump(1, 0)).then(x -> x.image(2)).then(x -> x.anew(0))
            .then(x -> x.play()).then(x -> x.slip(3, 1)).then(x -> x.slip(3, 1)).then(x -> x.play())
            .then(x -> x.odds(0)).then(x -> x.tear(1)).then(x -> x.at(0, 3)).then(x -> x.mark(0, 1))
            .then(x -> x.mean(2)).then(x -> x.row(1, -1)).then(x -> x.mean(0));

    private static final Way OVER = RICH.plays(7);
    private static final Way FULL = RICH.then(29, x -> x.jump(1, 2)).then(x -> x.slip(1, 1));

    /** HEARD as no OUTS give it, with chances told ahead of that. */
    private static final Way CONTRARY = Way.piece("q2 u01 u01 u01 g01").then(x -> x.odds(0)).plays(1)
            .then(2, x -> x.slip(0, -1)).plays(1).then(2, x -> x.slip(0, 1)).plays(1).then(x -> x.here());

    /** No PLACES yet, but ROWS, TEXTS, FINDINGS and something that was told. */
    private static final Way BARE = ((Way) x -> x.row(0, 3)).then(x -> x.lay(0, 2, -7)).then(Way.text(1, "q2 b0"))
            .then(x -> x.tear(1)).then(x -> x.at(0, 2));

    private EdgesOfTerms() {
    }

    static void hold(Sentences s) {
        calls(s);
        constants(s);
        order(s);
        otherwise(s);
        findingNumbers(s);
        sizes(s);
        unchangedRows(s);
        unchangedPiece(s);
        unchangedWithoutPlaces(s);
        unchangedWhenOver(s);
        unchangedWhenFull(s);
        unchangedByNone(s);
    }

    private static void calls(Sentences s) {
        s.says("What it is", "An object is used for at most 512 calls after it has been made");
        s.due(Way.NEW.then(511, x -> x.tear(0)), "findings(1) as the 512th call", x -> x.findings(1), 511);
        // The PIECE takes seven calls.
        s.due(Way.piece("q2u01").then(504, x -> x.here()), "play() as the 512th call", BarBehind::play, 1);
        s.due(Way.piece("q2u01").idle(40).then(464, x -> x.play()), "undo(0) as the 512th call", x -> x.undo(0), 40);
    }

    private static void constants(Sentences s) {
        s.says("Terms", "BAD -1 (a number that is none, or not as told), FULL -2, STATE -4 (not now), SPENT -6 (more than told), "
                + "FINDING -3 (finding() tells which)");
        s.is("BAD", BarBehind.BAD, -1);
        s.is("FULL", BarBehind.FULL, -2);
        s.is("STATE", BarBehind.STATE, -4);
        s.is("SPENT", BarBehind.SPENT, -6);
        s.is("FINDING", BarBehind.FINDING, -3);
        s.says("Terms", "NONE -9.");
        s.is("NONE", BarBehind.NONE, -9);
    }

    private static void order(Sentences s) {
        s.says("Terms", "Refused is, the first of these that fits, in this order");
        s.refused(RICH, "row(6, -1): BAD ahead of SIZE", x -> x.row(6, -1), Sentences.BAD);
        s.refused(RICH, "text(4, -1): BAD ahead of SIZE", x -> x.text(4, -1), Sentences.BAD);
        s.refused(RICH, "copy(0, 0, 6, 0, -1): BAD ahead of SIZE", x -> x.copy(0, 0, 6, 0, -1), Sentences.BAD);
        s.refused(RICH, "copy(6, 0, 1, 0, 0): BAD ahead of NOTHING", x -> x.copy(6, 0, 1, 0, 0), Sentences.BAD);
        s.refused(RICH, "copy(1, 0, -1, 0, 0): BAD ahead of NOTHING", x -> x.copy(1, 0, -1, 0, 0), Sentences.BAD);
        s.refused(RICH, "copy(0, 9, 6, 0, 0): BAD ahead of BEYOND", x -> x.copy(0, 9, 6, 0, 0), Sentences.BAD);
        s.refused(RICH, "lay(6, 99, 0): BAD ahead of BEYOND", x -> x.lay(6, 99, 0), Sentences.BAD);
        s.refused(RICH, "put(4, 99, 0): BAD ahead of BEYOND", x -> x.put(4, 99, 0), Sentences.BAD);
        s.refused(RICH, "mark(1, 0): BAD ahead of UNLIKE", x -> x.mark(1, 0), Sentences.BAD);
        s.refused(RICH, "mark(12, 1): BAD ahead of UNLIKE", x -> x.mark(12, 1), Sentences.BAD);
        s.refused(CONTRARY, "odds(2): BAD ahead of NOUGHT", x -> x.odds(2), Sentences.BAD);
        s.refused(CONTRARY, "self(2): BAD ahead of NOUGHT", x -> x.self(2), Sentences.BAD);
        s.refused(FULL, "jump(0, 0): BAD ahead of FULL", x -> x.jump(0, 0), Sentences.BAD);
        s.refused(FULL, "anew(3): BAD ahead of FULL", x -> x.anew(3), Sentences.BAD);
        s.refused(FULL, "slip(4, 1): BAD ahead of FULL", x -> x.slip(4, 1), Sentences.BAD);
        s.refused(RICH, "slip(3, 2): BAD ahead of STATE", x -> x.slip(3, 2), Sentences.BAD);
        s.refused(OVER, "lots(21, 1): BAD ahead of STATE", x -> x.lots(21, 1), Sentences.BAD);
        s.refused(BARE, "lots(1, 0): BAD ahead of STATE", x -> x.lots(1, 0), Sentences.BAD);
        s.refused(BARE, "image(3): BAD ahead of STATE", x -> x.image(3), Sentences.BAD);
        s.refused(BARE, "together(6): BAD ahead of STATE", x -> x.together(6), Sentences.BAD);
        s.refused(BARE, "signs(-1): BAD ahead of STATE", x -> x.signs(-1), Sentences.BAD);
    }

    private static void otherwise(Sentences s) {
        s.says("Terms", "unless a call says so otherwise");
        s.refused(Way.piece("q2b01").plays(1).idle(39), "play(): STATE ahead of FULL", BarBehind::play, Sentences.STATE);
        s.refused(FULL.then(x -> x.undo(39)).then(x -> x.slip(2, 1)), "slip(3, 1): STATE ahead of FULL",
                x -> x.slip(3, 1), Sentences.STATE);
        s.found(BARE, "piece(0): NOTHING ahead of STATE", x -> x.piece(0), Sentences.NOTHING);
    }

    private static void findingNumbers(Sentences s) {
        s.says("Terms", "1 NOTHING (a ROW, a TEXT, a kept EVENING that is missing)");
        s.found(RICH, "at(1, 0)", x -> x.at(1, 0), 1);
        s.found(RICH, "put(3, 0, 0)", x -> x.put(3, 0, 0), 1);
        s.found(RICH, "restore(1)", x -> x.restore(1), 1);
        s.says("Terms", "2 BEYOND (a place of a ROW, a TEXT that there is not)");
        s.found(RICH, "at(0, 3)", x -> x.at(0, 3), 2);
        s.found(RICH, "put(1, 5, 0)", x -> x.put(1, 5, 0), 2);
        s.says("Terms", "3 UNLIKE (a PLACE of another KIND");
        s.found(RICH, "mark(0, 1)", x -> x.mark(0, 1), 3);
        s.says("Terms", "a number that is none), 4 NOUGHT (shared among none");
        s.found(RICH, "mean(2)", x -> x.mean(2), 4);
        s.says("Terms", "what can't be), 5 SIZE (fewer than none");
        s.found(CONTRARY, "odds(0)", x -> x.odds(0), 4);
        s.found(RICH, "row(1, -1)", x -> x.row(1, -1), 5);
        s.says("Terms", "not as many as due).");
        s.found(RICH, "copy(0, 0, 0, 0, -1)", x -> x.copy(0, 0, 0, 0, -1), 5);
    }

    private static void sizes(Sentences s) {
        s.says("Terms", "ROWS 0 .. 5 are rows of 0 to 40 ints, TEXTS 0 .. 3 rows of 0 to 80 bytes, or missing (at first).");
        for (int n = 0; n <= 40; n++) {
            int size = n;
            s.due(Way.NEW, "row(5, " + n + ")", x -> x.row(5, size), n);
        }
        for (int n = 0; n <= 80; n++) {
            int size = n;
            s.due(Way.NEW, "text(3, " + n + ")", x -> x.text(3, size), n);
        }
        for (int n = 0; n < 6; n++) {
            int r = n;
            s.found(Way.NEW, "at(" + n + ", 0)", x -> x.at(r, 0), Sentences.NOTHING);
            s.due(Way.NEW, "row(" + n + ", 40)", x -> x.row(r, 40), 40);
        }
        for (int n = 0; n < 4; n++) {
            int t = n;
            s.found(Way.NEW, "fault(" + n + ")", x -> x.fault(t), Sentences.NOTHING);
            s.due(Way.NEW, "text(" + n + ", 80)", x -> x.text(t, 80), 80);
        }
    }

    private static void unchangedRows(Sentences s) {
        s.says("Terms", "What is refused changes nothing but finding(), findings().");
        s.refused(RICH, "row(6, 1)", x -> x.row(6, 1), Sentences.BAD);
        s.refused(RICH, "row(0, 41)", x -> x.row(0, 41), Sentences.BAD);
        s.found(RICH, "row(0, -1)", x -> x.row(0, -1), Sentences.SIZE);
        s.refused(RICH, "lay(6, 0, 1)", x -> x.lay(6, 0, 1), Sentences.BAD);
        s.found(RICH, "lay(1, 0, 1)", x -> x.lay(1, 0, 1), Sentences.NOTHING);
        s.found(RICH, "lay(0, 3, 1)", x -> x.lay(0, 3, 1), Sentences.BEYOND);
        s.refused(RICH, "at(-1, 0)", x -> x.at(-1, 0), Sentences.BAD);
        s.found(RICH, "at(1, 0)", x -> x.at(1, 0), Sentences.NOTHING);
        s.found(RICH, "at(5, 40)", x -> x.at(5, 40), Sentences.BEYOND);
        s.refused(RICH, "tear(6)", x -> x.tear(6), Sentences.BAD);
        s.found(RICH, "tear(1)", x -> x.tear(1), Sentences.NOTHING);
        s.refused(RICH, "copy(0, 0, 6, 0, 1)", x -> x.copy(0, 0, 6, 0, 1), Sentences.BAD);
        s.found(RICH, "copy(0, 0, 5, 0, -1)", x -> x.copy(0, 0, 5, 0, -1), Sentences.SIZE);
        s.found(RICH, "copy(0, 0, 1, 0, 1)", x -> x.copy(0, 0, 1, 0, 1), Sentences.NOTHING);
        s.found(RICH, "copy(5, 36, 0, 0, 4)", x -> x.copy(5, 36, 0, 0, 4), Sentences.BEYOND);
        s.found(RICH, "copy(5, 38, 0, 0, 3)", x -> x.copy(5, 38, 0, 0, 3), Sentences.BEYOND);
        s.refused(RICH, "mean(6)", x -> x.mean(6), Sentences.BAD);
        s.found(RICH, "mean(1)", x -> x.mean(1), Sentences.NOTHING);
        s.found(RICH, "mean(2)", x -> x.mean(2), Sentences.NOUGHT);
        s.refused(RICH, "text(4, 1)", x -> x.text(4, 1), Sentences.BAD);
        s.refused(RICH, "text(0, 81)", x -> x.text(0, 81), Sentences.BAD);
        s.found(RICH, "text(0, -1)", x -> x.text(0, -1), Sentences.SIZE);
        s.refused(RICH, "put(4, 0, 1)", x -> x.put(4, 0, 1), Sentences.BAD);
        s.found(RICH, "put(3, 0, 1)", x -> x.put(3, 0, 1), Sentences.NOTHING);
        s.found(RICH, "put(1, 5, 1)", x -> x.put(1, 5, 1), Sentences.BEYOND);
        s.refused(RICH, "fault(4)", x -> x.fault(4), Sentences.BAD);
        s.found(RICH, "fault(3)", x -> x.fault(3), Sentences.NOTHING);
    }

    private static void unchangedPiece(Sentences s) {
        s.refused(RICH, "piece(4)", x -> x.piece(4), Sentences.BAD);
        s.found(RICH, "piece(3)", x -> x.piece(3), Sentences.NOTHING);
        s.refused(RICH, "piece(1)", x -> x.piece(1), Sentences.STATE);
        s.refused(RICH, "place(12, 0)", x -> x.place(12, 0), Sentences.BAD);
        s.refused(RICH, "place(0, 3)", x -> x.place(0, 3), Sentences.BAD);
        s.refused(RICH, "note(4, 0)", x -> x.note(4, 0), Sentences.BAD);
        s.refused(RICH, "mark(0, 0)", x -> x.mark(0, 0), Sentences.BAD);
        s.found(RICH, "mark(0, 1)", x -> x.mark(0, 1), Sentences.UNLIKE);
        s.refused(RICH, "slip(4, 1)", x -> x.slip(4, 1), Sentences.BAD);
        s.refused(RICH, "slip(0, 0)", x -> x.slip(0, 0), Sentences.BAD);
        s.refused(RICH, "slip(3, 1)", x -> x.slip(3, 1), Sentences.STATE);
        s.refused(RICH, "jump(0, 0)", x -> x.jump(0, 0), Sentences.BAD);
        s.refused(RICH, "jump(0, 4)", x -> x.jump(0, 4), Sentences.BAD);
        s.refused(RICH, "anew(3)", x -> x.anew(3), Sentences.BAD);
        s.refused(RICH, "undo(11)", x -> x.undo(11), Sentences.BAD);
        s.refused(RICH, "undo(-1)", x -> x.undo(-1), Sentences.BAD);
        s.refused(RICH, "out(4)", x -> x.out(4), Sentences.BAD);
        s.refused(RICH, "heard(6)", x -> x.heard(6), Sentences.BAD);
        s.refused(RICH, "image(3)", x -> x.image(3), Sentences.BAD);
        s.refused(RICH, "restore(3)", x -> x.restore(3), Sentences.BAD);
        s.found(RICH, "restore(1)", x -> x.restore(1), Sentences.NOTHING);
        s.refused(RICH, "odds(4)", x -> x.odds(4), Sentences.BAD);
        s.refused(RICH, "self(4)", x -> x.self(4), Sentences.BAD);
        s.found(CONTRARY, "odds(1)", x -> x.odds(1), Sentences.NOUGHT);
        s.found(CONTRARY, "self(1)", x -> x.self(1), Sentences.NOUGHT);
        s.found(CONTRARY, "who()", BarBehind::who, Sentences.NOUGHT);
        s.found(CONTRARY, "aloud()", BarBehind::aloud, Sentences.NOUGHT);
        s.refused(RICH, "tells(12)", x -> x.tells(12), Sentences.BAD);
        s.refused(RICH, "hides(0, 0)", x -> x.hides(0, 0), Sentences.BAD);
        s.refused(RICH, "hides(4, 1)", x -> x.hides(4, 1), Sentences.BAD);
        s.refused(RICH, "together(6)", x -> x.together(6), Sentences.BAD);
        s.refused(RICH, "signs(6)", x -> x.signs(6), Sentences.BAD);
        s.refused(RICH, "lots(0, 1)", x -> x.lots(0, 1), Sentences.BAD);
        s.refused(RICH, "lots(1, 0)", x -> x.lots(1, 0), Sentences.BAD);
        s.refused(RICH, "count(9)", x -> x.count(9), Sentences.BAD);
        s.refused(RICH, "findings(6)", x -> x.findings(6), Sentences.BAD);
    }

    private static void unchangedWithoutPlaces(Sentences s) {
        s.refused(BARE, "place(0, 0)", x -> x.place(0, 0), Sentences.BAD);
        s.refused(BARE, "play()", BarBehind::play, Sentences.STATE);
        s.refused(BARE, "here()", BarBehind::here, Sentences.STATE);
        s.refused(BARE, "hear()", BarBehind::hear, Sentences.STATE);
        s.refused(BARE, "image(0)", x -> x.image(0), Sentences.STATE);
        s.refused(BARE, "fits()", BarBehind::fits, Sentences.STATE);
        s.refused(BARE, "who()", BarBehind::who, Sentences.STATE);
        s.refused(BARE, "likely()", BarBehind::likely, Sentences.STATE);
        s.refused(BARE, "began()", BarBehind::began, Sentences.STATE);
        s.refused(BARE, "best()", BarBehind::best, Sentences.STATE);
        s.refused(BARE, "fewest()", BarBehind::fewest, Sentences.STATE);
        s.refused(BARE, "together(0)", x -> x.together(0), Sentences.STATE);
        s.refused(BARE, "rule()", BarBehind::rule, Sentences.STATE);
        s.refused(BARE, "signs(0)", x -> x.signs(0), Sentences.STATE);
        s.refused(BARE, "line()", BarBehind::line, Sentences.STATE);
        s.refused(BARE, "letter()", BarBehind::letter, Sentences.STATE);
        s.refused(BARE, "aloud()", BarBehind::aloud, Sentences.STATE);
        s.refused(BARE, "lots(1, 1)", x -> x.lots(1, 1), Sentences.STATE);
    }

    private static void unchangedWhenOver(Sentences s) {
        s.refused(OVER, "play()", BarBehind::play, Sentences.STATE);
        s.refused(OVER, "hear()", BarBehind::hear, Sentences.STATE);
        s.refused(OVER, "line()", BarBehind::line, Sentences.STATE);
        s.refused(OVER, "lots(1, 1)", x -> x.lots(1, 1), Sentences.STATE);
    }

    private static void unchangedWhenFull(Sentences s) {
        s.refused(FULL, "play()", BarBehind::play, Sentences.FULL);
        s.refused(FULL, "slip(0, 1)", x -> x.slip(0, 1), Sentences.FULL);
        s.refused(FULL, "jump(0, 3)", x -> x.jump(0, 3), Sentences.FULL);
        s.refused(FULL, "anew(0)", x -> x.anew(0), Sentences.FULL);
        s.refused(FULL, "lots(1, 2)", x -> x.lots(1, 2), 0);
    }

    private static void unchangedByNone(Sentences s) {
        s.refused(RICH, "together(0)", x -> x.together(0), Sentences.NONE);
        s.refused(CONTRARY, "likely()", BarBehind::likely, Sentences.NONE);
        Way bars = BARE.then(Way.piece("q2l00")).then(x -> x.place(0, 0));
        s.refused(bars, "letter()", BarBehind::letter, Sentences.NONE);
        s.refused(bars, "fewest()", BarBehind::fewest, Sentences.NONE);
        s.refused(bars.then(Way.piece("q2u01")).plays(1), "who()", BarBehind::who, Sentences.NONE);
    }
}
