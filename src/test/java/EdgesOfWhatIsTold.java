import java.util.ArrayList;
import java.util.List;

/** Promises 44 to 50, sentence by sentence, at their edges. */
final class EdgesOfWhatIsTold {
    /** asked() tells 77, the chances are 1 by 3; PLACE 3 is a LETTER, PLACES 4 and 5 are yet to be PLAYED. */
    private static final Way TOLD = Way.piece("q2 u12 u34 l88 g66 t66 c01").plays(1).then(x -> x.odds(0)).plays(3)
            .then(x -> x.slip(1, 1)).then(x -> x.row(0, 2)).then(x -> x.lay(0, 1, 77)).then(x -> x.image(0))
            .then(x -> x.at(0, 1));

    private EdgesOfWhatIsTold() {
    }

    static void hold(Sentences s) {
        askedByThose(s);
        askedNotByOthers(s);
        askedNotByRefused(s);
        chances(s);
        countsOfPiece(s);
        countsOfOthers(s);
        finding(s);
        findings(s);
        digest(s);
        digestOfPiece(s);
        digestOfTheRest(s);
    }

    private static void askedByThose(Sentences s) {
        s.says("44", "What the latest lay(), at(), mean(), place(), here(), fits(), who(), began(), best(), fewest(), "
                + "modern(), together(), rule(), line(), letter(), aloud()");
        s.tells(TOLD, "lay(0, 1, 5)", x -> x.lay(0, 1, 5), 77);
        s.tells(TOLD, "lay(0, 0, 5)", x -> x.lay(0, 0, 5), 0);
        s.tells(TOLD, "at(0, 0)", x -> x.at(0, 0), 0);
        s.tells(TOLD, "mean(0)", x -> x.mean(0), 38);
        s.tells(TOLD, "place(3, 0)", x -> x.place(3, 0), 3);
        s.told(TOLD, "here()", BarBehind::here, 4, 4);
        s.told(TOLD, "fits()", BarBehind::fits, 1, 12);
        s.told(TOLD.then(x -> x.undo(0)), "who()", BarBehind::who, 0, 1);
        s.told(TOLD.then(x -> x.undo(0)), "began()", BarBehind::began, 0, 0);
        s.told(TOLD, "best()", BarBehind::best, 0, 2);
        s.told(Way.piece("q2u01").then(x -> x.place(0, 2)), "fewest()", BarBehind::fewest, 1, 1);
        s.told(TOLD, "modern()", BarBehind::modern, 1 + 2 + 32, 2);
        s.told(TOLD, "together(1)", x -> x.together(1), 1, 2);
        s.told(TOLD, "rule()", BarBehind::rule, 1, 1);
        s.told(TOLD, "line()", BarBehind::line, 0, 1);
        s.told(TOLD, "letter()", BarBehind::letter, 0, 1);
        s.told(TOLD, "aloud()", BarBehind::aloud, 0, 1);
        s.told(TOLD.then(x -> x.here()).then(x -> x.place(3, 0)), "the latest of two", x -> 1, 1, 3);
        s.says("44", "0 before.");
        s.due(Way.NEW, "asked()", BarBehind::asked, 0);
        s.due(Way.piece("q2b01").plays(1), "asked() behind others", BarBehind::asked, 0);
    }

    private static void stays(Sentences s, String name, Way way) {
        s.due(TOLD.then(way), "asked() behind " + name, BarBehind::asked, 77);
    }

    private static void askedNotByOthers(Sentences s) {
        s.says("44", "that was not refused");
        stays(s, "row()", x -> x.row(1, 3));
        stays(s, "tear()", x -> x.tear(0));
        stays(s, "copy()", x -> x.copy(0, 0, 0, 1, 1));
        stays(s, "text()", x -> x.text(1, 3));
        stays(s, "put()", x -> x.put(0, 0, 1));
        stays(s, "fault()", x -> x.fault(0));
        stays(s, "piece()", x -> x.piece(0));
        stays(s, "note()", x -> x.note(0, 0));
        stays(s, "mark()", x -> x.mark(3, 3));
        stays(s, "play()", x -> x.play());
        stays(s, "slip()", x -> x.slip(0, 1));
        stays(s, "jump()", x -> x.jump(0, 1));
        stays(s, "anew()", x -> x.anew(0));
        stays(s, "undo()", x -> x.undo(2));
        stays(s, "out()", x -> x.out(0));
        stays(s, "hear()", x -> x.hear());
        stays(s, "heard()", x -> x.heard(2));
        stays(s, "image()", x -> x.image(1));
        stays(s, "restore()", x -> x.restore(0));
        stays(s, "odds()", x -> x.odds(0));
        stays(s, "self()", x -> x.self(0));
        stays(s, "likely()", x -> x.likely());
        stays(s, "tells()", x -> x.tells(0));
        stays(s, "hides()", x -> x.hides(0, 1));
        stays(s, "signs()", x -> x.signs(3));
        stays(s, "lots()", x -> x.lots(2, 2));
        stays(s, "upper(), lower()", x -> x.lower());
        stays(s, "count()", x -> x.count(2));
        stays(s, "finding(), findings()", x -> x.findings(1));
        stays(s, "digest()", x -> x.digest());
        stays(s, "a refused lay()", x -> x.lay(0, 2, 1));
        stays(s, "a refused at()", x -> x.at(1, 0));
        stays(s, "a refused mean()", x -> x.mean(1));
        stays(s, "a refused place()", x -> x.place(6, 0));
        stays(s, "a refused together()", x -> x.together(6));
        stays(s, "a refused line()", x -> {
            x.play();
            x.play();
            x.line();
        });
    }

    private static void askedNotByRefused(Sentences s) {
        s.says("44", "(nor NONE, but as told) told");
        stays(s, "who() of nobody", x -> {
            x.undo(4);
            x.who();
        });
        stays(s, "together(0) of NONE", x -> x.together(0));
        Way bars = Way.piece("q2 l00 l00").then(x -> x.row(0, 1)).then(x -> x.lay(0, 0, 77)).then(x -> x.at(0, 0));
        s.told(bars, "fewest() of NONE", BarBehind::fewest, Sentences.NONE, 77);
        s.told(bars, "letter() of NONE", BarBehind::letter, Sentences.NONE, 77);
        Way contrary = Way.piece("q2 u01 u01 u01").plays(1).then(2, x -> x.slip(0, -1)).plays(1)
                .then(2, x -> x.slip(0, 1)).plays(1).then(x -> x.here());
        s.told(contrary, "who() of none", BarBehind::who, Sentences.FINDING, 3);
        s.told(contrary, "aloud() of none", BarBehind::aloud, Sentences.FINDING, 3);
        s.told(contrary, "likely() of none", BarBehind::likely, Sentences.NONE, 3);
        s.told(contrary, "fits() of none, as told", BarBehind::fits, 0, Sentences.NONE);
        s.told(contrary.then(x -> x.fits()), "who() of none behind fits()", BarBehind::who, Sentences.FINDING,
                Sentences.NONE);
    }

    private static void chances(Sentences s) {
        s.says("45", "The upper number of the chances that were told last");
        s.due(TOLD, "upper()", BarBehind::upper, 1);
        s.due(TOLD.then(x -> x.odds(0)), "upper() behind another", BarBehind::upper, 0);
        s.due(TOLD.then(x -> x.odds(2)), "upper() behind a refused odds()", BarBehind::upper, 1);
        s.due(TOLD.then(x -> x.self(-1)), "upper() behind a refused self()", BarBehind::upper, 1);
        s.due(TOLD.then(x -> x.piece(0)), "upper() behind piece()", BarBehind::upper, 1);
        s.due(TOLD.then(x -> x.undo(0)).then(x -> x.self(1)), "upper() behind self()", BarBehind::upper, 3);
        s.says("45", "0 before.");
        s.due(Way.NEW, "upper()", BarBehind::upper, 0);
        s.due(Way.NEW.then(x -> x.odds(0)), "upper() behind a refused one", BarBehind::upper, 0);
        s.says("46", "Its lower number");
        s.due(TOLD, "lower()", BarBehind::lower, 3);
        s.due(TOLD.then(x -> x.odds(0)), "lower() behind another", BarBehind::lower, 1);
        s.due(TOLD.then(x -> x.odds(2)), "lower() behind a refused odds()", BarBehind::lower, 3);
        s.due(TOLD.then(x -> x.self(-1)), "lower() behind a refused self()", BarBehind::lower, 3);
        s.due(TOLD.then(x -> x.undo(0)).then(x -> x.self(1)), "lower() behind self()", BarBehind::lower, 5);
        s.says("46", "1 before.");
        s.due(Way.NEW, "lower()", BarBehind::lower, 1);
        s.due(Way.NEW.then(x -> x.self(0)), "lower() behind a refused one", BarBehind::lower, 1);
    }

    private static void counted(Sentences s, Way way, int what, int want) {
        s.refused(way, "count(" + what + ")", x -> x.count(what), want);
    }

    private static void countsOfPiece(Sentences s) {
        s.says("47", "0 PLAYERS");
        for (int players = 2; players <= 4; players++) {
            counted(s, Way.piece("q" + players + "b" + "0".repeat(players)), 0, players);
        }
        counted(s, Way.NEW, 0, 0);
        s.says("47", "1 PLACES");
        for (int places = 1; places <= 14; places++) counted(s, Way.piece("q2" + "b00".repeat(places)), 1, places);
        counted(s, Way.NEW, 1, 0);
        s.says("47", "2 DEEDS");
        for (int deeds : new int[] {0, 1, 39, 40}) counted(s, Way.piece("q2b00").idle(deeds), 2, deeds);
        counted(s, Way.piece("q2b00").idle(41), 2, 40);
        counted(s, Way.piece("q2b00").idle(9).then(x -> x.undo(3)), 2, 3);
        s.says("47", "3 PLAYERS who are OUT");
        counted(s, Way.piece("q4b0000"), 3, 0);
        counted(s, Way.piece("q4b0000").outs(0, -1), 3, 1);
        counted(s, Way.piece("q4b0000").outs(2, -1, 1, -2), 3, 4);
        counted(s, Way.piece("q4b0000").outs(2, -1, 1, -2).then(x -> x.slip(1, 1)), 3, 3);
        counted(s, Way.NEW, 3, 0);
        s.says("47", "4 LETTERS");
        counted(s, Way.piece("q2" + "g00".repeat(14)), 4, 14);
        counted(s, Way.piece("q2b00u00l00t00c00"), 4, 0);
        counted(s, Way.piece("q2g00u00g00t00c00"), 4, 2);
        s.says("47", "5 LONG ones (TIED, too)");
        counted(s, Way.piece("q2" + "l00t00".repeat(7)), 5, 14);
        counted(s, Way.piece("q2b00u00g00c00"), 5, 0);
        counted(s, Way.piece("q2l00"), 5, 1);
        counted(s, Way.piece("q2t00"), 5, 1);
    }

    private static void countsOfOthers(Sentences s) {
        s.says("47", "6 ROWS");
        Way rows = Way.NEW;
        for (int n = 0; n <= 6; n++) {
            int r = n;
            counted(s, rows, 6, n);
            rows = rows.then(x -> x.row(r, r % 2));
        }
        counted(s, rows.then(x -> x.row(6, 1)).then(x -> x.row(5, 3)), 6, 6);
        counted(s, rows.then(x -> x.tear(0)).then(x -> x.tear(5)), 6, 4);
        s.says("47", "7 TEXTS that are there");
        Way texts = Way.NEW;
        for (int n = 0; n <= 4; n++) {
            int t = n;
            counted(s, texts, 7, n);
            texts = texts.then(x -> x.text(t, t % 2));
        }
        counted(s, texts.then(x -> x.text(4, 1)).then(x -> x.text(3, 3)), 7, 4);
        s.says("47", "8 kept EVENINGS.");
        Way kept = Way.piece("q2b00");
        for (int n = 0; n <= 3; n++) {
            int k = n;
            counted(s, kept, 8, n);
            kept = kept.then(x -> x.image(k));
        }
        counted(s, kept.then(x -> x.image(3)).then(x -> x.image(2)).then(x -> x.restore(1)), 8, 3);
        counted(s, kept.then(x -> x.piece(0)), 8, 0);
        s.says("47", "BAD.");
        for (int what : new int[] {-1, 9, Sentences.LEAST, Sentences.MOST}) counted(s, TOLD, what, Sentences.BAD);
    }

    private static void finding(Sentences s) {
        Way each = ((Way) x -> x.tear(0)).then(x -> x.row(0, 0));
        s.says("48", "The latest FINDING");
        s.due(each, "finding() of NOTHING", BarBehind::finding, 1);
        s.due(each.then(x -> x.at(0, 0)), "finding() of BEYOND", BarBehind::finding, 2);
        s.due(each.then(Way.piece("q2b00")).then(x -> x.mark(0, 1)), "finding() of UNLIKE", BarBehind::finding, 3);
        s.due(each.then(x -> x.mean(0)), "finding() of NOUGHT", BarBehind::finding, 4);
        s.due(each.then(x -> x.row(0, -1)), "finding() of SIZE", BarBehind::finding, 5);
        s.due(each.then(x -> x.row(0, -1)).then(x -> x.tear(1)), "finding() of the latest", BarBehind::finding, 1);
        s.due(each.then(x -> x.row(6, 0)), "finding() behind BAD", BarBehind::finding, 1);
        s.due(each.then(x -> x.play()), "finding() behind STATE", BarBehind::finding, 1);
        s.due(each.then(x -> x.row(1, 1)), "finding() behind what is taken", BarBehind::finding, 1);
        s.due(each.then(Way.piece("q2b00")).then(x -> x.letter()), "finding() behind NONE", BarBehind::finding, 1);
        s.due(each.then(Way.piece("q2b00")).idle(41), "finding() behind FULL", BarBehind::finding, 1);
        s.says("48", "(0 before any)");
        s.due(Way.NEW, "finding()", BarBehind::finding, 0);
        s.due(Way.NEW.then(x -> x.row(6, 0)).then(x -> x.play()), "finding() behind others", BarBehind::finding, 0);
    }

    private static void findings(Sentences s) {
        s.says("49", "How often a FINDING (1 .. 5) was answered.");
        Way many = ((Way) x -> x.row(0, 0)).then(x -> x.tear(1)).then(2, x -> x.at(0, 0))
                .then(Way.piece("q2b00")).then(3, x -> x.mark(0, 1)).then(4, x -> x.mean(0)).then(5, x -> x.row(0, -1));
        for (int f = 1; f <= 5; f++) {
            int of = f;
            s.refused(many, "findings(" + f + ")", x -> x.findings(of), f);
            s.due(Way.NEW, "findings(" + f + ") of none", x -> x.findings(of), 0);
            s.due(many.then(x -> x.row(6, 0)).then(x -> x.piece(3)), "findings(" + f + ") behind NOTHING",
                    x -> x.findings(of), f == 1 ? 2 : f);
        }
        s.due(Way.NEW.then(400, x -> x.tear(0)), "findings(1) of 400", x -> x.findings(1), 400);
        s.says("49", "BAD.");
        for (int f : new int[] {0, 6, -1, Sentences.LEAST, Sentences.MOST}) {
            s.refused(many, "findings(" + f + ")", x -> x.findings(f), Sentences.BAD);
        }
    }

    /** Folds numbers as promise 50 tells it. */
    private static long folded(int[]... parts) {
        List<Integer> all = new ArrayList<>();
        for (int[] part : parts) for (int v : part) all.add(v);
        long h = 17;
        for (int v : all) h = 31 * h + v;
        return h;
    }

    private static int[] of(int... values) {
        return values;
    }

    private static final int[] NO_EVENINGS = {-1, -1, -1}, NO_ROWS = {-1, -1, -1, -1, -1, -1}, NO_TEXTS = {-1, -1, -1, -1};

    private static void digest(Sentences s) {
        s.says("50", "h = 17");
        s.refused(Way.NEW, "digest()", BarBehind::digest,
                folded(new int[10], NO_EVENINGS, NO_ROWS, NO_TEXTS));
        s.says("50", "then h = 31 h + v for each v: count() 0 to 8");
        Way counts = Way.piece("q2g00l00").then(x -> x.slip(0, 1)).then(x -> x.row(0, 0)).then(x -> x.image(0))
                .then(x -> x.slip(1, 1)).then(x -> x.jump(0, 1));
        s.due(counts, "digest()", BarBehind::digest, folded(of(2, 2, 3, 2, 1, 1, 1, 1, 1), of(0),
                of(3, 0, 2, 2, 0, 2), of(3, 3), of(1, -1, -1), of(0, -1, -1, -1, -1, -1),
                of(8, 'q', '2', 'g', '0', '0', 'l', '0', '0', -1, -1, -1)));
    }

    private static void digestOfPiece(Sentences s) {
        int[] text = {11, 'q', '2', 'u', '0', '1', 'b', '0', '8', 'c', '8', '9', -1, -1, -1};
        int[] places = {1, 1, 2, 0, 0, 1, 5, 0, 0};
        Way three = Way.piece("q2u01b08c89");
        s.says("50", "the PLACE at which THE PIECE is");
        s.due(three.plays(1), "digest()", BarBehind::digest, folded(of(2, 3, 1, 0, 0, 0, 0, 1, 0), of(1), places,
                of(2, 2), of(1), NO_EVENINGS, NO_ROWS, text));
        s.due(three.plays(3), "digest() when OVER", BarBehind::digest, folded(of(2, 3, 3, 0, 0, 0, 0, 1, 0), of(3),
                places, of(2, 2), of(1, 0, 0), NO_EVENINGS, NO_ROWS, text));
        s.says("50", "of each PLACE place() 0 to 2");
        s.due(three, "digest()", BarBehind::digest, folded(of(2, 3, 0, 0, 0, 0, 0, 1, 0), of(0), places, of(2, 2),
                NO_EVENINGS, NO_ROWS, text));
        s.says("50", "of each PLAYER out()");
        s.due(three.outs(-2, 1), "digest()", BarBehind::digest, folded(of(2, 3, 3, 2, 0, 0, 0, 1, 0), of(0), places,
                of(0, 3), NO_EVENINGS, NO_ROWS, text));
        s.says("50", "what was HEARD");
        Way anew = Way.piece("q2u01g01").plays(1).then(x -> x.anew(0)).plays(1);
        s.due(anew, "digest()", BarBehind::digest, folded(of(2, 2, 3, 0, 1, 0, 0, 1, 0), of(2), of(1, 1, 2, 3, 1, 2),
                of(2, 2), of(1), NO_EVENINGS, NO_ROWS,
                of(8, 'q', '2', 'u', '0', '1', 'g', '0', '1', -1, -1, -1)));
    }

    private static void digestOfTheRest(Sentences s) {
        int[] text = {5, 'q', '2', 'b', '0', '0', -1, -1, -1};
        s.says("50", "of each kept EVENING how many DEEDS (-1: missing)");
        Way kept = Way.piece("q2b00").then(x -> x.image(1)).idle(3).then(x -> x.image(2)).then(x -> x.undo(0));
        s.due(kept, "digest()", BarBehind::digest, folded(of(2, 1, 0, 0, 0, 0, 0, 1, 2), of(0), of(0, 0, 2), of(2, 2),
                of(-1, 0, 3), NO_ROWS, text));
        s.says("50", "of each ROW its size (-1: missing) and places, of each TEXT likewise.");
        Way rows = ((Way) x -> x.row(1, 0)).then(x -> x.row(3, 2)).then(x -> x.lay(3, 0, Sentences.LEAST))
                .then(x -> x.lay(3, 1, Sentences.MOST)).then(x -> x.row(5, 1)).then(x -> x.lay(5, 0, -1))
                .then(x -> x.row(2, 3)).then(x -> x.tear(2)).then(x -> x.text(0, 0)).then(x -> x.text(2, 3))
                .then(x -> x.put(2, 0, 127)).then(x -> x.put(2, 1, 128)).then(x -> x.text(3, 1))
                .then(x -> x.put(3, 0, 255));
        s.due(rows, "digest()", BarBehind::digest, folded(of(0, 0, 0, 0, 0, 0, 3, 3, 0), of(0), NO_EVENINGS,
                of(-1, 0, -1, 2, Sentences.LEAST, Sentences.MOST, -1, 1, -1),
                of(0, -1, 3, 127, -128, 32, 1, -1)));
        Way cut = ((Way) x -> x.row(0, 40)).then(x -> x.lay(0, 39, 5)).then(x -> x.row(0, 1)).then(x -> x.text(0, 80))
                .then(x -> x.put(0, 79, 5)).then(x -> x.text(0, 1));
        s.due(cut, "digest() of what was cut", BarBehind::digest, folded(of(0, 0, 0, 0, 0, 0, 1, 1, 0), of(0),
                NO_EVENINGS, of(1, 0, -1, -1, -1, -1, -1), of(1, 32, -1, -1, -1)));
        int[] forty = new int[46], eighty = new int[84];
        forty[0] = 40;
        forty[40] = 9;
        java.util.Arrays.fill(forty, 41, 46, -1);
        java.util.Arrays.fill(eighty, 1, 81, 32);
        eighty[0] = 80;
        eighty[80] = 7;
        java.util.Arrays.fill(eighty, 81, 84, -1);
        Way longest = ((Way) x -> x.row(0, 40)).then(x -> x.lay(0, 39, 9)).then(x -> x.text(0, 80))
                .then(x -> x.put(0, 79, 7));
        s.due(longest, "digest() of the longest", BarBehind::digest, folded(of(0, 0, 0, 0, 0, 0, 1, 1, 0), of(0),
                NO_EVENINGS, forty, eighty));
    }
}
