/** KINDS, PAIRS and CLASHES of the Terms and promises 12 to 14, sentence by sentence, at their edges. */
final class EdgesOfPieces {
    private static final String LETTERS = "bulgtc";
    private static final Way SIX = Way.piece("q2 b00 u00 l00 g00 t00 c00");
    private static final Way FOURTEEN = Way.piece("q4" + "b0123".repeat(14));

    private EdgesOfPieces() {
    }

    static void hold(Sentences s) {
        atFirst(s);
        kinds(s);
        pairs(s);
        thePiece(s);
        out(s);
        silence(s);
        clashes(s);
        place(s);
        placeRefused(s);
        note(s);
        markUnison(s);
        markLong(s);
        markLetter(s);
        markTied(s);
        markChance(s);
        markRefused(s);
    }

    private static void atFirst(Sentences s) {
        s.says("Terms", "A PIECE (without PLAYERS, PLACES at first) is a TEXT");
        s.due(Way.NEW, "count(0)", x -> x.count(0), 0);
        s.due(Way.NEW, "count(1)", x -> x.count(1), 0);
        s.due(Way.text(0, "q2b01"), "count(1) of a TEXT that is not yet a PIECE", x -> x.count(1), 0);
        s.due(Way.piece("q2b01"), "count(1)", x -> x.count(1), 1);
    }

    private static void kinds(Sentences s) {
        s.says("Terms", "KINDS of PLACES and letters: 0 BAR (b, 98), 1 UNISON (u, 117; a BAR), 2 LONG (l, 108; a BAR), "
                + "3 LETTER (g, 103; a UNISON), 4 TIED (t, 116; a LONG), 5 CHANCE (c, 99; a BAR).");
        int[] signs = {98, 117, 108, 103, 116, 99};
        for (int kind = 0; kind < 6; kind++) {
            s.tells(Way.piece("q2" + (char) signs[kind] + "00"), "place(0, 0) of sign " + signs[kind],
                    x -> x.place(0, 0), kind);
        }
        boolean[][] is = {
            {false, false, false, false, false}, {true, false, false, false, false},
            {false, true, false, false, false}, {true, false, true, false, false},
            {false, true, false, true, false}, {false, false, false, false, true}};
        for (int i = 0; i < 6; i++) {
            for (int k = 1; k <= 5; k++) {
                int at = i, kind = k;
                String call = "mark(" + i + ", " + k + ")";
                if (is[i][k - 1]) s.due(SIX, call, x -> x.mark(at, kind) >= 0 ? 1 : 0, 1);
                else s.found(SIX, call, x -> x.mark(at, kind), Sentences.UNLIKE);
            }
        }
    }

    private static void heard(Sentences s, String signs, int want) {
        s.due(Way.piece(signs), "hear() of " + signs, BarBehind::hear, want);
    }

    private static void pairs(Sentences s) {
        s.says("Terms", "PAIRS of PLAYERS are 0, 1, ..: 0 and 1, 0 and 2, 0 and 3, 1 and 2, 1 and 3, 2 and 3");
        heard(s, "q4u0188", 1);
        heard(s, "q4u0818", 2);
        heard(s, "q4u0881", 4);
        heard(s, "q4u8018", 8);
        heard(s, "q4u8081", 16);
        heard(s, "q4u8801", 32);
        heard(s, "q4u0123", 63);
        s.says("Terms", "three PLAYERS: 0 and 1, 0 and 2, 1 and 2");
        heard(s, "q3u018", 1);
        heard(s, "q3u081", 2);
        heard(s, "q3u801", 4);
        heard(s, "q3u012", 7);
        s.says("Terms", "two: 0 and 1)");
        heard(s, "q2u01", 1);
        s.says("Terms", "Sets (of PLAYERS, of PLACES, of PAIRS) are told by bits.");
        heard(s, "q4u0001", 4 + 16 + 32);
        s.due(Way.piece("q2" + "b01".repeat(14)), "modern() of 14", BarBehind::modern, (1 << 14) - 1);
        s.due(Way.piece("q2" + "b00".repeat(13) + "b01"), "modern() of PLACE 13", BarBehind::modern, 1 << 13);
        s.due(Way.piece("q2b01" + "b00".repeat(13)), "modern() of PLACE 0", BarBehind::modern, 1);
    }

    private static void thePiece(Sentences s) {
        s.says("Terms", "THE PIECE is at a PLACE (0 at first");
        s.due(FOURTEEN, "here()", BarBehind::here, 0);
        for (int n = 1; n <= 13; n++) s.due(FOURTEEN.plays(n), "here() behind " + n, BarBehind::here, n);
        s.says("Terms", "OVER behind the last one)");
        s.due(FOURTEEN.plays(13), "play() of the last one", x -> x.play() >= 0 ? 1 : 0, 1);
        s.due(FOURTEEN.plays(14), "here() behind the last one", BarBehind::here, 14);
        s.refused(FOURTEEN.plays(14), "play() behind the last one", BarBehind::play, Sentences.STATE);
        s.refused(Way.piece("q2b01").plays(1), "play() behind the only one", BarBehind::play, Sentences.STATE);
    }

    private static void out(Sentences s) {
        s.says("Terms", "Each PLAYER is OUT by -2 .. 2 (0 at first");
        for (int p = 0; p < 4; p++) {
            int of = p;
            s.due(FOURTEEN, "out(" + p + ") at first", x -> x.out(of), 2);
            s.due(FOURTEEN.then(2, x -> x.slip(of, 1)), "out(" + p + ") at most", x -> x.out(of), 4);
            s.due(FOURTEEN.then(2, x -> x.slip(of, -1)), "out(" + p + ") at least", x -> x.out(of), 0);
            s.refused(FOURTEEN.then(2, x -> x.slip(of, 1)), "slip(" + p + ", 1)", x -> x.slip(of, 1), Sentences.STATE);
            s.refused(FOURTEEN.then(2, x -> x.slip(of, -1)), "slip(" + p + ", -1)", x -> x.slip(of, -1),
                    Sentences.STATE);
        }
        s.says("Terms", "below 0: behind) and plays the NOTE of the PLACE so much further on than that at which THE PIECE is");
        for (int d = -2; d <= 2; d++) {
            for (int n = 0; n <= 4; n++) {
                String signs = "q2u0" + n + "u1" + n + "u2" + n + "u3" + n + "u4" + n;
                s.due(Way.piece(signs).outs(d).plays(2), "hear() on PLACE 2, PLAYER 0 OUT by " + d + ", against " + n,
                        BarBehind::hear, n == 2 + d ? 0 : 1);
                String other = "q2u" + n + "0u" + n + "1u" + n + "2u" + n + "3u" + n + "4";
                s.due(Way.piece(other).outs(0, d).plays(2), "hear() on PLACE 2, PLAYER 1 OUT by " + d + ", against " + n,
                        BarBehind::hear, n == 2 + d ? 0 : 1);
            }
        }
    }

    private static void silence(Sentences s) {
        s.says("Terms", "nothing, where there is none such.");
        for (int at = 0; at < 4; at++) {
            for (int d = -2; d <= 2; d++) {
                boolean there = at + d >= 0 && at + d < 4;
                s.due(Way.piece("q2u01u01u01u01").outs(d).plays(at), "hear() on PLACE " + at + ", OUT by " + d,
                        BarBehind::hear, there ? 1 : 0);
            }
        }
        s.due(Way.piece("q2u01").outs(1, -1), "hear() of nothing and nothing", BarBehind::hear, 0);
        s.due(Way.piece("q2b06").outs(-2, 0), "hear() of nothing and 6", BarBehind::hear, 0);
    }

    private static boolean clash(char letter, int one, int other) {
        if (one > 7 || other > 7) return false;
        int apart = Math.abs(one - other);
        switch (letter) {
            case 'b': return apart == 1 || apart == 6;
            case 'u': case 'g': return apart > 0;
            case 'c': return apart == 1;
            default: return false;
        }
    }

    private static void allNotes(Sentences s, String letters) {
        for (char letter : letters.toCharArray()) {
            for (int notes = 0; notes < 100; notes++) {
                String signs = "q2" + letter + notes / 10 + notes % 10;
                heard(s, signs, clash(letter, notes / 10, notes % 10) ? 1 : 0);
            }
        }
    }

    private static void clashes(Sentences s) {
        s.says("Terms", "Two NOTES (RESTS, nothing never) CLASH");
        for (char letter : LETTERS.toCharArray()) {
            for (int note = 0; note < 10; note++) {
                heard(s, "q2" + letter + note + "8", 0);
                heard(s, "q2" + letter + "9" + note, 0);
            }
        }
        s.due(Way.piece("q2u01u89").outs(1), "hear() of a REST that is elsewhere", BarBehind::hear, 0);
        s.says("Terms", "on a PLACE at which THE PIECE is");
        s.due(Way.piece("q2l01u23").outs(1), "hear() on a LONG, of a UNISON's NOTE", BarBehind::hear, 0);
        s.due(Way.piece("q2u12l34").outs(1), "hear() on a UNISON, of a LONG's NOTE", BarBehind::hear, 1);
        s.due(Way.piece("q2c01b70").outs(1), "hear() on a CHANCE of 7 and 1", BarBehind::hear, 0);
        s.due(Way.piece("q2b01c70").outs(1), "hear() on a BAR of 7 and 1", BarBehind::hear, 1);
        s.says("Terms", "on a BAR, if they differ by 1 or 6");
        allNotes(s, "b");
        s.says("Terms", "on a UNISON (a LETTER, too), if they differ");
        allNotes(s, "ug");
        s.says("Terms", "on a LONG (a TIED, too) never");
        allNotes(s, "lt");
        s.says("Terms", "on a CHANCE, if they differ by 1.");
        allNotes(s, "c");
        s.says("Terms", "What is HEARD of a PLACE are the PAIRS that CLASH.");
        heard(s, "q4b0167", 1 + 2 + 16 + 32);
        heard(s, "q4c0167", 1 + 32);
        heard(s, "q4u0011", 2 + 4 + 8 + 16);
        heard(s, "q4u0000", 0);
    }

    private static void place(Sentences s) {
        s.says("12", "Of a PLACE: 0 its KIND");
        for (int i = 0; i < 6; i++) {
            int at = i;
            s.tells(SIX, "place(" + i + ", 0)", x -> x.place(at, 0), new int[] {0, 1, 2, 3, 4, 5}[i]);
        }
        s.tells(FOURTEEN, "place(13, 0)", x -> x.place(13, 0), 0);
        s.says("12", "1 PAIRS that CLASH there if nobody is OUT (bits)");
        s.tells(FOURTEEN, "place(13, 1)", x -> x.place(13, 1), 1 + 8 + 32);
        Way three = Way.piece("q3 u012 b666 u001");
        int[] pairs = {7, 0, 6};
        for (int i = 0; i < 3; i++) {
            int at = i;
            s.tells(three, "place(" + i + ", 1)", x -> x.place(at, 1), pairs[i]);
            s.tells(three.outs(1, -1, 2), "place(" + i + ", 1) though all are OUT", x -> x.place(at, 1), pairs[i]);
            s.tells(three.plays(3), "place(" + i + ", 1) when OVER", x -> x.place(at, 1), pairs[i]);
        }
        s.says("12", "2 how many NOTES sound there then, told by asked(): 1.");
        Way four = Way.piece("q4 b8989 u0899 l0789 g0078 t0123 c0000");
        int[] sounding = {0, 1, 2, 3, 4, 4};
        for (int i = 0; i < 6; i++) {
            int at = i;
            s.tells(four, "place(" + i + ", 2)", x -> x.place(at, 2), sounding[i]);
            s.tells(four.outs(2, 2, -2, -2), "place(" + i + ", 2) though all are OUT", x -> x.place(at, 2), sounding[i]);
        }
    }

    private static void placeRefused(Sentences s) {
        s.says("12", "BAD.");
        for (int at : new int[] {-1, 6, 14, Sentences.LEAST, Sentences.MOST}) {
            s.refused(SIX, "place(" + at + ", 0)", x -> x.place(at, 0), Sentences.BAD);
        }
        for (int what : new int[] {-1, 3, Sentences.LEAST, Sentences.MOST}) {
            s.refused(SIX, "place(0, " + what + ")", x -> x.place(0, what), Sentences.BAD);
        }
        s.refused(FOURTEEN, "place(14, 0)", x -> x.place(14, 0), Sentences.BAD);
        s.refused(Way.NEW, "place(0, 0) without PLACES", x -> x.place(0, 0), Sentences.BAD);
    }

    private static void note(Sentences s) {
        s.says("13", "The NOTE of a PLAYER on a PLACE (as told).");
        Way two = Way.piece("q2 b09 u78");
        s.due(two, "note(0, 0)", x -> x.note(0, 0), 0);
        s.due(two, "note(1, 0), a REST", x -> x.note(1, 0), 9);
        s.due(two, "note(0, 1)", x -> x.note(0, 1), 7);
        s.due(two, "note(1, 1), a REST", x -> x.note(1, 1), 8);
        s.due(two.outs(1, -1), "note(0, 0) though OUT", x -> x.note(0, 0), 0);
        s.due(FOURTEEN, "note(3, 13)", x -> x.note(3, 13), 3);
        s.says("13", "BAD.");
        for (int p : new int[] {-1, 2, 3, Sentences.LEAST, Sentences.MOST}) {
            s.refused(two, "note(" + p + ", 0)", x -> x.note(p, 0), Sentences.BAD);
        }
        for (int at : new int[] {-1, 2, 13, Sentences.LEAST, Sentences.MOST}) {
            s.refused(two, "note(0, " + at + ")", x -> x.note(0, at), Sentences.BAD);
        }
        s.refused(FOURTEEN, "note(4, 0)", x -> x.note(4, 0), Sentences.BAD);
        s.refused(FOURTEEN, "note(0, 14)", x -> x.note(0, 14), Sentences.BAD);
        s.refused(Way.NEW, "note(0, 0) without PLACES", x -> x.note(0, 0), Sentences.BAD);
    }

    private static void marked(Sentences s, String signs, int at, int kind, int want) {
        s.due(Way.piece(signs), "mark(" + at + ", " + kind + ") of " + signs, x -> x.mark(at, kind), want);
    }

    private static void markUnison(Sentences s) {
        s.says("14", "a UNISON (LETTER, too) whether all that sounds there is one NOTE (1, 0");
        for (String letter : new String[] {"u", "g"}) {
            marked(s, "q2" + letter + "33", 0, 1, 1);
            marked(s, "q2" + letter + "34", 0, 1, 0);
            marked(s, "q2" + letter + "07", 0, 1, 0);
            marked(s, "q3" + letter + "001", 0, 1, 0);
            marked(s, "q3" + letter + "010", 0, 1, 0);
            marked(s, "q3" + letter + "100", 0, 1, 0);
            marked(s, "q3" + letter + "808", 0, 1, 1);
            marked(s, "q3" + letter + "880", 0, 1, 1);
            marked(s, "q3" + letter + "081", 0, 1, 0);
            marked(s, "q4" + letter + "8778", 0, 1, 1);
            marked(s, "q4" + letter + "0000", 0, 1, 1);
        }
        s.says("14", "nothing: 1)");
        marked(s, "q2u88", 0, 1, 1);
        marked(s, "q2u89", 0, 1, 1);
        marked(s, "q4g9898", 0, 1, 1);
    }

    private static void markLong(Sentences s) {
        s.says("14", "a LONG (TIED, too) how many PLACES of lesser numbers are no LONG ones (nor TIED)");
        marked(s, "q2l00", 0, 2, 0);
        marked(s, "q2t00", 0, 2, 0);
        marked(s, "q2" + "b00".repeat(13) + "l00", 13, 2, 13);
        marked(s, "q2" + "b00".repeat(13) + "t00", 13, 2, 13);
        marked(s, "q2" + "l00".repeat(14), 13, 2, 0);
        marked(s, "q2" + "t00".repeat(14), 13, 2, 0);
        marked(s, "q2b00l00u00t00g00c00l00", 1, 2, 1);
        marked(s, "q2b00l00u00t00g00c00l00", 3, 2, 2);
        marked(s, "q2b00l00u00t00g00c00l00", 6, 2, 4);
        marked(s, "q2l00b00b00", 0, 2, 0);
    }

    private static void markLetter(Sentences s) {
        s.says("14", "a LETTER which LETTER it is (0, 1, ..)");
        for (int at = 0; at < 14; at++) marked(s, "q2" + "g00".repeat(14), at, 3, at);
        marked(s, "q2" + "u00".repeat(13) + "g00", 13, 3, 0);
        marked(s, "q2g00u00b00g00", 3, 3, 1);
    }

    private static void markTied(Sentences s) {
        s.says("14", "a TIED how many PLAYERS have the same NOTE (no REST) there as on the PLACE ahead");
        marked(s, "q4b0123t0123", 1, 4, 4);
        marked(s, "q4b0123t4567", 1, 4, 0);
        marked(s, "q4b0123t1032", 1, 4, 0);
        marked(s, "q4b0000t0001", 1, 4, 3);
        marked(s, "q4b8888t8888", 1, 4, 0);
        marked(s, "q4b9999t8888", 1, 4, 0);
        marked(s, "q4b0788t0789", 1, 4, 2);
        marked(s, "q2b00t12b12", 1, 4, 0);
        marked(s, "q2" + "b00".repeat(12) + "b11t11", 13, 4, 2);
        s.says("14", "(0 on PLACE 0)");
        marked(s, "q2t00", 0, 4, 0);
        marked(s, "q2t00t00", 0, 4, 0);
    }

    private static void markChance(Sentences s) {
        s.says("14", "a CHANCE how many PAIRS would CLASH there if it were a BAR.");
        marked(s, "q2c00", 0, 5, 0);
        marked(s, "q2c01", 0, 5, 1);
        marked(s, "q2c05", 0, 5, 0);
        marked(s, "q2c06", 0, 5, 1);
        marked(s, "q2c07", 0, 5, 0);
        marked(s, "q2c89", 0, 5, 0);
        marked(s, "q2c28", 0, 5, 0);
        marked(s, "q4c0167", 0, 5, 4);
        marked(s, "q4c0101", 0, 5, 4);
        marked(s, "q2" + "b00".repeat(13) + "c17", 13, 5, 1);
    }

    private static void markRefused(Sentences s) {
        s.says("14", "What a PLACE that IS of a KIND tells");
        s.alike("mark() changes nothing", SIX.then(x -> x.mark(1, 1)), SIX);
        s.says("14", "BAD");
        for (int at : new int[] {-1, 6, 14, Sentences.LEAST, Sentences.MOST}) {
            s.refused(SIX, "mark(" + at + ", 1)", x -> x.mark(at, 1), Sentences.BAD);
        }
        for (int kind : new int[] {-1, 6, Sentences.LEAST, Sentences.MOST}) {
            s.refused(SIX, "mark(1, " + kind + ")", x -> x.mark(1, kind), Sentences.BAD);
        }
        s.refused(Way.NEW, "mark(0, 1) without PLACES", x -> x.mark(0, 1), Sentences.BAD);
        s.says("14", "also KIND 0");
        for (int i = 0; i < 6; i++) {
            int at = i;
            s.refused(SIX, "mark(" + i + ", 0)", x -> x.mark(at, 0), Sentences.BAD);
        }
        s.says("14", "UNLIKE.");
        for (int kind = 1; kind <= 5; kind++) {
            int of = kind;
            s.found(SIX, "mark(0, " + kind + ") of a BAR", x -> x.mark(0, of), Sentences.UNLIKE);
        }
        s.found(SIX, "mark(1, 3) of a UNISON", x -> x.mark(1, 3), Sentences.UNLIKE);
        s.found(SIX, "mark(2, 4) of a LONG", x -> x.mark(2, 4), Sentences.UNLIKE);
        s.found(SIX, "mark(5, 1) of a CHANCE", x -> x.mark(5, 1), Sentences.UNLIKE);
    }
}
