/** Promises 15 to 25, sentence by sentence, at their edges. */
final class EdgesOfPlaying {
    /** PLACES 1 and 4 are LETTERS. */
    private static final Way FIVE = Way.piece("q3 u012 g000 b016 c010 g123");
    private static final Way ONE = Way.piece("q2b01");
    private static final Way FOURTEEN = Way.piece("q2" + "g01".repeat(14));
    private static final int[] NOT_THREE = {-1, 3, 4, Sentences.LEAST, Sentences.MOST};

    /** A DEED of each kind, and more than one of some: nine. */
    private static final Way[] DEEDS = {
        BarBehind::play, x -> x.slip(1, -1), BarBehind::play, x -> x.jump(0, 1), x -> x.slip(2, 1),
        x -> x.anew(0), BarBehind::play, x -> x.slip(1, 1), BarBehind::play};

    private EdgesOfPlaying() {
    }

    static void hold(Sentences s) {
        deeds(s);
        play(s);
        playRefused(s);
        slip(s);
        slipRefused(s);
        jump(s);
        jumpRefused(s);
        anew(s);
        anewRefused(s);
        undo(s);
        undoRefused(s);
        here(s);
        out(s);
        hear(s);
        heard(s);
        image(s);
        restore(s);
        restoreAlike(s);
    }

    private static Way done(int deeds) {
        Way way = FIVE;
        for (int i = 0; i < deeds; i++) way = way.then(DEEDS[i]);
        return way;
    }

    private static void deeds(Sentences s) {
        s.says("Terms", "DEEDS are PLAYING a PLACE, slips, jumps, beginning anew.");
        for (int n = 0; n <= DEEDS.length; n++) s.due(done(n), "count(2) behind " + n, x -> x.count(2), n);
        Way none = FIVE.then(x -> x.hear()).then(x -> x.heard(0)).then(x -> x.image(0)).then(x -> x.restore(0))
                .then(x -> x.here()).then(x -> x.out(0)).then(x -> x.fits()).then(x -> x.together(1))
                .then(x -> x.line()).then(x -> x.letter()).then(x -> x.undo(0)).then(x -> x.digest());
        s.due(none, "count(2) behind calls that are none", x -> x.count(2), 0);
    }

    private static void play(Sentences s) {
        s.says("15", "The PLACE at which THE PIECE is is PLAYED: PAIRS that are HEARD to CLASH (bits)");
        int[] heard = {7, 0, 3, 5, 7};
        for (int n = 0; n < 5; n++) s.due(FIVE.plays(n), "play() of " + n, BarBehind::play, heard[n]);
        // PLAYER 1 is a bar behind: nothing, then 1, 0, 1, 1 against 0 and 0, 0 and 6, 0 and 0, 1 and 3.
        int[] late = {2, 5, 6, 5, 6};
        for (int n = 0; n < 5; n++) {
            s.due(FIVE.outs(0, -1).plays(n), "play() of " + n + ", one behind", BarBehind::play, late[n]);
        }
        s.due(Way.piece("q4u0123"), "play() of all PAIRS", BarBehind::play, 63);
        s.says("15", "THE PIECE is at the next one then.");
        for (int n = 1; n <= 5; n++) s.told(FIVE.plays(n), "here() behind " + n, BarBehind::here, n, n);
        s.told(FIVE.then(x -> x.anew(1)).plays(1), "here() behind the last", BarBehind::here, 5, 1);
    }

    private static void playRefused(Sentences s) {
        s.says("15", "STATE: it is OVER, or no PLACES");
        s.refused(FIVE.plays(5), "play() when OVER", BarBehind::play, Sentences.STATE);
        s.refused(ONE.plays(1), "play() when OVER", BarBehind::play, Sentences.STATE);
        s.refused(FOURTEEN.plays(14), "play() when OVER", BarBehind::play, Sentences.STATE);
        s.refused(Way.NEW, "play() without PLACES", BarBehind::play, Sentences.STATE);
        s.due(FIVE.plays(4), "play() of the last PLACE", BarBehind::play, 7);
        s.says("15", "FULL: 40 DEEDS.");
        s.due(ONE.idle(39), "play() as the fortieth", BarBehind::play, 1);
        s.refused(ONE.idle(40), "play() behind forty", BarBehind::play, Sentences.FULL);
        s.due(ONE.idle(40).then(x -> x.undo(39)), "play() once one is undone", BarBehind::play, 1);
        s.says("15", "(FULL last.)");
        s.refused(ONE.plays(1).idle(39), "play() when OVER and FULL", BarBehind::play, Sentences.STATE);
    }

    private static void slip(Sentences s) {
        s.says("16", "A PLAYER slips by d (-1, 1): how much that one is OUT then, and 2 more.");
        for (int p = 0; p < 3; p++) {
            int of = p;
            for (int from = -2; from <= 2; from++) {
                int[] outs = new int[3];
                outs[p] = from;
                Way way = FIVE.outs(outs);
                if (from < 2) s.due(way, "slip(" + p + ", 1) from " + from, x -> x.slip(of, 1), from + 3);
                if (from > -2) s.due(way, "slip(" + p + ", -1) from " + from, x -> x.slip(of, -1), from + 1);
            }
            s.due(FIVE.then(x -> x.slip(of, 1)), "out(" + p + ")", x -> x.out(of), 3);
            s.due(FIVE.then(x -> x.slip(of, 1)), "count(3)", x -> x.count(3), 1);
            s.due(FIVE.then(x -> x.slip(of, 1)), "here()", BarBehind::here, 0);
        }
        s.due(FIVE.plays(5), "slip(0, 1) when OVER", x -> x.slip(0, 1), 3);
        s.due(Way.piece("q4b0123"), "slip(3, -1)", x -> x.slip(3, -1), 1);
    }

    private static void slipRefused(Sentences s) {
        s.says("16", "BAD");
        for (int p : NOT_THREE) s.refused(FIVE, "slip(" + p + ", 1)", x -> x.slip(p, 1), Sentences.BAD);
        for (int d : new int[] {0, 2, -2, 3, Sentences.LEAST, Sentences.MOST}) {
            s.refused(FIVE, "slip(0, " + d + ")", x -> x.slip(0, d), Sentences.BAD);
        }
        s.refused(ONE, "slip(2, 1) of two", x -> x.slip(2, 1), Sentences.BAD);
        s.refused(Way.piece("q4b0123"), "slip(4, 1) of four", x -> x.slip(4, 1), Sentences.BAD);
        s.refused(Way.NEW, "slip(0, 1) without PLAYERS", x -> x.slip(0, 1), Sentences.BAD);
        s.refused(FIVE.outs(2), "slip(0, 2) that is too far, too", x -> x.slip(0, 2), Sentences.BAD);
        s.refused(ONE.idle(40), "slip(0, 2) when FULL", x -> x.slip(0, 2), Sentences.BAD);
        s.says("16", "STATE: that would be more than 2 either way");
        s.refused(FIVE.outs(2), "slip(0, 1) from 2", x -> x.slip(0, 1), Sentences.STATE);
        s.refused(FIVE.outs(-2), "slip(0, -1) from -2", x -> x.slip(0, -1), Sentences.STATE);
        s.refused(FIVE.outs(0, 0, 2), "slip(2, 1) from 2", x -> x.slip(2, 1), Sentences.STATE);
        s.says("16", "FULL: 40 DEEDS.");
        s.due(ONE.idle(39), "slip(0, 1) as the fortieth", x -> x.slip(0, 1), 3);
        s.refused(ONE.idle(40), "slip(0, 1) behind forty", x -> x.slip(0, 1), Sentences.FULL);
        s.refused(ONE.idle(40), "slip(1, -1) behind forty", x -> x.slip(1, -1), Sentences.FULL);
        s.says("16", "(FULL last.)");
        s.refused(ONE.idle(38).outs(2), "slip(0, 1) too far and FULL", x -> x.slip(0, 1), Sentences.STATE);
        s.refused(ONE.idle(38).outs(0, -2), "slip(1, -1) too far and FULL", x -> x.slip(1, -1), Sentences.STATE);
    }

    private static void jump(Sentences s) {
        s.says("17", "A PLAYER jumps to where another one is: by how much, and 4 more.");
        for (int from = -2; from <= 2; from++) {
            for (int to = -2; to <= 2; to++) {
                int by = to - from, out = to;
                Way way = FIVE.outs(from, 0, to);
                s.due(way, "jump(0, 2) from " + from + " to " + to, x -> x.jump(0, 2), by + 4);
                s.due(way.then(x -> x.jump(0, 2)), "out(0)", x -> x.out(0), out + 2);
                s.due(way.then(x -> x.jump(0, 2)), "out(1)", x -> x.out(1), 2);
                s.due(way.then(x -> x.jump(0, 2)), "out(2)", x -> x.out(2), out + 2);
            }
        }
        s.due(FIVE.outs(0, 1), "jump(2, 1)", x -> x.jump(2, 1), 5);
        s.due(FIVE.plays(5), "jump(0, 1) when OVER", x -> x.jump(0, 1), 4);
        s.due(FIVE.then(x -> x.jump(0, 1)), "count(2) behind a jump by nothing", x -> x.count(2), 1);
    }

    private static void jumpRefused(Sentences s) {
        s.says("17", "BAD");
        for (int p : NOT_THREE) {
            s.refused(FIVE, "jump(" + p + ", 0)", x -> x.jump(p, 0), Sentences.BAD);
            s.refused(FIVE, "jump(0, " + p + ")", x -> x.jump(0, p), Sentences.BAD);
        }
        s.refused(Way.NEW, "jump(0, 1) without PLAYERS", x -> x.jump(0, 1), Sentences.BAD);
        s.refused(ONE.idle(40), "jump(0, 2) when FULL", x -> x.jump(0, 2), Sentences.BAD);
        s.says("17", "also the same");
        for (int p = 0; p < 3; p++) {
            int of = p;
            s.refused(FIVE.outs(1, 1, 1), "jump(" + p + ", " + p + ")", x -> x.jump(of, of), Sentences.BAD);
        }
        s.says("17", "FULL.");
        s.due(ONE.idle(39), "jump(1, 0) as the fortieth", x -> x.jump(1, 0), 4);
        s.refused(ONE.idle(40), "jump(1, 0) behind forty", x -> x.jump(1, 0), Sentences.FULL);
    }

    private static void anew(Sentences s) {
        s.says("18", "All begin anew at a LETTER (0, 1, ..)");
        s.due(FIVE, "anew(0)", x -> x.anew(0), 1);
        s.due(FIVE, "anew(1)", x -> x.anew(1), 4);
        for (int n = 0; n < 14; n++) {
            int letter = n;
            s.due(FOURTEEN.plays(5), "anew(" + n + ") of fourteen", x -> x.anew(letter), n);
        }
        s.due(FIVE.then(x -> x.anew(1)), "here()", BarBehind::here, 4);
        s.due(FIVE.plays(5).then(x -> x.anew(0)), "here() behind OVER", BarBehind::here, 1);
        s.due(FIVE.plays(5).then(x -> x.anew(1)), "play() behind OVER", BarBehind::play, 7);
        s.says("18", "nobody OUT");
        Way all = FIVE.outs(2, -1, 1).then(x -> x.anew(0));
        s.due(all, "count(3)", x -> x.count(3), 0);
        for (int p = 0; p < 3; p++) {
            int of = p;
            s.due(all, "out(" + p + ")", x -> x.out(of), 2);
        }
        s.says("18", "nothing PLAYED: its PLACE.");
        Way played = FIVE.plays(3).then(x -> x.anew(1));
        s.told(played, "here()", BarBehind::here, 4, 0);
        s.due(played, "heard(0)", x -> x.heard(0), 0);
        s.due(played, "fits()", BarBehind::fits, 125);
        s.told(played, "began()", BarBehind::began, 0, 0);
    }

    private static void anewRefused(Sentences s) {
        s.says("18", "BAD: no such one");
        for (int n : new int[] {-1, 2, 4, Sentences.LEAST, Sentences.MOST}) {
            s.refused(FIVE.plays(1), "anew(" + n + ")", x -> x.anew(n), Sentences.BAD);
        }
        s.refused(ONE, "anew(0) without LETTERS", x -> x.anew(0), Sentences.BAD);
        s.refused(FOURTEEN, "anew(14)", x -> x.anew(14), Sentences.BAD);
        s.refused(Way.NEW, "anew(0) without PLACES", x -> x.anew(0), Sentences.BAD);
        s.refused(FIVE.idle(40), "anew(2) when FULL", x -> x.anew(2), Sentences.BAD);
        s.says("18", "FULL.");
        s.due(FIVE.idle(39), "anew(0) as the fortieth", x -> x.anew(0), 1);
        s.refused(FIVE.idle(40), "anew(0) behind forty", x -> x.anew(0), Sentences.FULL);
    }

    private static void undo(Sentences s) {
        s.says("19", "DEEDS from number n on are undone: how many.");
        for (int deeds = 0; deeds <= DEEDS.length; deeds++) {
            for (int n = 0; n <= deeds; n++) {
                int from = n;
                s.due(done(deeds), "undo(" + n + ") of " + deeds, x -> x.undo(from), deeds - n);
                s.alike("undo(" + n + ") of " + deeds, done(deeds).then(x -> x.undo(from)), done(n));
            }
        }
        s.due(ONE.idle(40), "undo(40) of forty", x -> x.undo(40), 0);
        s.due(ONE.idle(40), "undo(0) of forty", x -> x.undo(0), 40);
        s.due(ONE.idle(40), "undo(39) of forty", x -> x.undo(39), 1);
        s.due(Way.NEW, "undo(0) without PLACES", x -> x.undo(0), 0);
        Way other = done(5).then(x -> x.undo(3)).then(x -> x.slip(0, 1)).then(BarBehind::play);
        s.alike("other DEEDS behind undo(3)", other, done(3).then(x -> x.slip(0, 1)).then(BarBehind::play));
    }

    private static void undoRefused(Sentences s) {
        s.says("19", "BAD.");
        for (int n : new int[] {-1, 10, 40, 41, Sentences.LEAST, Sentences.MOST}) {
            s.refused(done(9), "undo(" + n + ") of nine", x -> x.undo(n), Sentences.BAD);
        }
        s.refused(FIVE, "undo(1) of none", x -> x.undo(1), Sentences.BAD);
        s.refused(ONE.idle(40), "undo(41) of forty", x -> x.undo(41), Sentences.BAD);
        s.refused(done(9).then(x -> x.undo(4)), "undo(5) of what is undone", x -> x.undo(5), Sentences.BAD);
        s.refused(Way.NEW, "undo(1) without PLACES", x -> x.undo(1), Sentences.BAD);
    }

    private static void here(Sentences s) {
        s.says("20", "The PLACE at which THE PIECE is");
        s.due(FIVE, "here() at first", BarBehind::here, 0);
        s.due(FIVE.outs(2, 2, 2), "here() though all are OUT", BarBehind::here, 0);
        s.due(FOURTEEN.plays(14), "here() when OVER", BarBehind::here, 14);
        s.says("20", "how many were PLAYED since it began (anew) by asked().");
        s.told(FIVE, "here() at first", BarBehind::here, 0, 0);
        s.told(FIVE.plays(5), "here() when OVER", BarBehind::here, 5, 5);
        s.told(FOURTEEN.plays(14), "here() when OVER", BarBehind::here, 14, 14);
        s.told(FIVE.plays(3).then(x -> x.anew(0)), "here() anew", BarBehind::here, 1, 0);
        s.told(FIVE.plays(3).then(x -> x.anew(0)).plays(2), "here() behind two anew", BarBehind::here, 3, 2);
        s.told(FOURTEEN.then(x -> x.anew(13)).plays(1), "here() behind the last LETTER", BarBehind::here, 14, 1);
        s.says("20", "STATE: no PLACES.");
        s.refused(Way.NEW, "here()", BarBehind::here, Sentences.STATE);
    }

    private static void out(Sentences s) {
        s.says("21", "How much a PLAYER is OUT (-2 .. 2), and 2 more.");
        for (int d = -2; d <= 2; d++) {
            int by = d;
            for (int p = 0; p < 3; p++) {
                int of = p;
                int[] outs = new int[3];
                outs[p] = d;
                s.due(FIVE.outs(outs), "out(" + p + ") by " + d, x -> x.out(of), by + 2);
            }
        }
        s.says("21", "BAD.");
        for (int p : NOT_THREE) s.refused(FIVE, "out(" + p + ")", x -> x.out(p), Sentences.BAD);
        s.refused(ONE, "out(2) of two", x -> x.out(2), Sentences.BAD);
        s.refused(Way.piece("q4b0123"), "out(4) of four", x -> x.out(4), Sentences.BAD);
        s.refused(Way.NEW, "out(0) without PLAYERS", x -> x.out(0), Sentences.BAD);
    }

    private static void hear(Sentences s) {
        s.says("22", "What would be HEARD now (bits).");
        int[] heard = {7, 0, 3, 5, 7};
        for (int n = 0; n < 5; n++) s.refused(FIVE.plays(n), "hear() on " + n, BarBehind::hear, heard[n]);
        s.due(FIVE.outs(0, -1).plays(1), "hear() with one behind", BarBehind::hear, 5);
        s.due(FIVE.plays(1).then(x -> x.slip(1, -1)), "hear() behind a slip", BarBehind::hear, 5);
        s.due(FIVE.plays(5).then(x -> x.anew(1)), "hear() anew", BarBehind::hear, 7);
        s.due(ONE.idle(40), "hear() when FULL", BarBehind::hear, 1);
        s.says("22", "STATE: OVER, or no PLACES.");
        s.refused(FIVE.plays(5), "hear() when OVER", BarBehind::hear, Sentences.STATE);
        s.refused(FOURTEEN.plays(14), "hear() when OVER", BarBehind::hear, Sentences.STATE);
        s.refused(Way.NEW, "hear() without PLACES", BarBehind::hear, Sentences.STATE);
        s.due(FIVE.plays(4), "hear() on the last PLACE", BarBehind::hear, 7);
    }

    private static void rowIs(Sentences s, Way way, String what, int r, int... want) {
        s.due(way, what + ": heard(" + r + ")", x -> x.heard(r), want.length);
        Way behind = way.then(x -> x.heard(r));
        s.found(behind, what + ": the ROW's size", x -> x.at(r, want.length), Sentences.BEYOND);
        for (int i = 0; i < want.length; i++) {
            int at = i;
            s.tells(behind, what + ": at(" + r + ", " + i + ")", x -> x.at(r, at), want[i]);
        }
    }

    private static void heard(Sentences s) {
        s.says("23", "What was HEARD so far comes to a ROW (anew");
        rowIs(s, FIVE.plays(5), "all", 0, 7, 0, 3, 5, 7);
        rowIs(s, FIVE.plays(3), "three", 5, 7, 0, 3);
        rowIs(s, FIVE, "nothing", 1);
        rowIs(s, FIVE.plays(2).then(x -> x.row(2, 40)).then(x -> x.lay(2, 1, 9)), "a longer ROW", 2, 7, 0);
        rowIs(s, FOURTEEN.plays(14), "fourteen", 3, 1, 1, 1, 1, 1, 1, 1, 1, 1, 1, 1, 1, 1, 1);
        rowIs(s, Way.NEW.then(x -> x.row(0, 3)), "without PLACES", 0);
        rowIs(s, FIVE.plays(2).then(x -> x.slip(0, 1)), "though one slipped behind", 0, 7, 0);
        s.due(FIVE.then(x -> x.heard(4)), "count(6) behind heard(4)", x -> x.count(6), 1);
        s.says("23", "of PLACES that were PLAYED since it began (anew)): how many.");
        rowIs(s, FIVE.plays(4).then(x -> x.anew(0)), "anew", 0);
        rowIs(s, FIVE.plays(4).then(x -> x.anew(0)).plays(2), "two anew", 0, 0, 3);
        rowIs(s, FIVE.then(x -> x.anew(1)).plays(1), "the last anew", 0, 7);
        rowIs(s, FIVE.plays(3).then(x -> x.undo(1)), "one that is not undone", 0, 7);
        s.says("23", "BAD.");
        for (int r : new int[] {-1, 6, Sentences.LEAST, Sentences.MOST}) {
            s.refused(FIVE.plays(2), "heard(" + r + ")", x -> x.heard(r), Sentences.BAD);
        }
    }

    private static void image(Sentences s) {
        s.says("24", "The EVENING is kept in a place (0 .. 2): how many DEEDS.");
        for (int k = 0; k < 3; k++) {
            int in = k;
            s.due(FIVE, "image(" + k + ") of none", x -> x.image(in), 0);
            s.due(done(9), "image(" + k + ") of nine", x -> x.image(in), 9);
            s.due(ONE.idle(40), "image(" + k + ") of forty", x -> x.image(in), 40);
            s.due(FIVE.then(x -> x.image(in)), "count(8)", x -> x.count(8), 1);
        }
        Way all = FIVE.then(x -> x.image(0)).plays(1).then(x -> x.image(1)).plays(1).then(x -> x.image(2));
        s.due(all, "count(8) of three", x -> x.count(8), 3);
        for (int k = 0; k < 3; k++) {
            int in = k;
            s.due(all, "restore(" + k + ") of three", x -> x.restore(in), k);
        }
        s.due(all.plays(1).then(x -> x.image(0)), "restore(0) of one kept over another", x -> x.restore(0), 3);
        s.due(all.plays(1).then(x -> x.image(0)), "count(8) of one kept over another", x -> x.count(8), 3);
        s.says("24", "BAD");
        for (int k : new int[] {-1, 3, Sentences.LEAST, Sentences.MOST}) {
            s.refused(done(9), "image(" + k + ")", x -> x.image(k), Sentences.BAD);
        }
        s.refused(Way.NEW, "image(3) without PLACES", x -> x.image(3), Sentences.BAD);
        s.says("24", "STATE: no PLACES.");
        for (int k = 0; k < 3; k++) {
            int in = k;
            s.refused(Way.NEW, "image(" + k + ")", x -> x.image(in), Sentences.STATE);
        }
    }

    private static void restore(Sentences s) {
        s.says("25", "how many DEEDS.");
        s.due(FIVE.then(x -> x.image(0)).plays(3), "restore(0) of none", x -> x.restore(0), 0);
        s.due(done(9).then(x -> x.image(1)).then(x -> x.undo(0)), "restore(1) of nine", x -> x.restore(1), 9);
        s.due(ONE.idle(40).then(x -> x.image(2)).then(x -> x.undo(0)), "restore(2) of forty", x -> x.restore(2), 40);
        s.refused(ONE.idle(40).then(x -> x.image(2)).then(x -> x.undo(0)).then(x -> x.restore(2)),
                "play() behind restore(2) of forty", BarBehind::play, Sentences.FULL);
        s.says("25", "BAD");
        for (int k : new int[] {-1, 3, Sentences.LEAST, Sentences.MOST}) {
            s.refused(done(9).then(x -> x.image(0)).plays(1), "restore(" + k + ")", x -> x.restore(k), Sentences.BAD);
        }
        s.says("25", "NOTHING.");
        for (int k = 0; k < 3; k++) {
            int in = k, other = (k + 1) % 3;
            s.found(done(9), "restore(" + k + ")", x -> x.restore(in), Sentences.NOTHING);
            s.found(done(9).then(x -> x.image(other)), "restore(" + k + ") with another kept", x -> x.restore(in),
                    Sentences.NOTHING);
        }
        s.found(Way.NEW, "restore(0) without PLACES", x -> x.restore(0), Sentences.NOTHING);
    }

    private static void restoreAlike(Sentences s) {
        s.says("25", "The EVENING is as it was kept");
        for (int n = 0; n <= DEEDS.length; n++) {
            Way kept = done(n).then(x -> x.image(1));
            s.alike("restore(1) of " + n, kept.then(x -> x.slip(0, 1)).then(BarBehind::play).then(x -> x.restore(1)), kept);
            s.alike("restore(1) of " + n + " behind undo(0)", kept.then(x -> x.undo(0)).then(x -> x.restore(1)), kept);
            s.alike("restore(1) of " + n + " over other DEEDS",
                    kept.then(x -> x.undo(0)).idle(12).then(x -> x.restore(1)), kept);
            s.alike("restore(1) of " + n + " twice",
                    kept.then(x -> x.restore(1)).plays(1).then(x -> x.restore(1)), kept);
        }
        Way forty = ONE.idle(39).then(x -> x.slip(1, 1)).then(x -> x.image(2));
        Way others = forty.then(x -> x.undo(0)).then(20, x -> x.slip(0, -1)).idle(40);
        s.alike("restore(2) of forty over other forty", others.then(x -> x.restore(2)), forty);
        Way kept = done(4).then(x -> x.image(0)).then(x -> x.row(0, 2)).then(x -> x.text(3, 1));
        s.due(kept.then(x -> x.restore(0)), "count(6): ROWS stay", x -> x.count(6), 1);
        s.due(kept.then(x -> x.restore(0)), "count(7): TEXTS stay", x -> x.count(7), 2);
        s.alike("going on from a kept one", kept.plays(1).then(x -> x.restore(0)).then(DEEDS[4]), kept.then(DEEDS[4]));
    }
}
