/** The small language of the Terms and promises 8 to 11, sentence by sentence, at their edges. */
final class EdgesOfTexts {
    private static final int[] NO_TEXTS = {-1, 4, Sentences.LEAST, Sentences.MOST};
    private static final String FOURTEEN = "q2" + "b01".repeat(14);

    /** TEXT 0 a PIECE, 1 of three signs, 2 of none; 3 is missing. */
    private static final Way THREE = Way.text(0, "q2b01").then(Way.text(1, "q2b")).then(x -> x.text(2, 0));

    private EdgesOfTexts() {
    }

    static void hold(Sentences s) {
        text(s);
        put(s);
        blanks(s);
        firstItem(s);
        places(s);
        notes(s);
        faults(s);
        ends(s);
        fault(s);
        piece(s);
        pieceAnew(s);
        pieceRefused(s);
    }

    private static void text(Sentences s) {
        s.says("8", "A TEXT is there with n blanks: n.");
        for (int k = 0; k < 4; k++) {
            int t = k;
            s.due(Way.NEW, "text(" + k + ", 1)", x -> x.text(t, 1), 1);
            s.due(x -> x.text(t, 1), "put(" + k + ", 0, 65)", x -> x.put(t, 0, 65), 1032);
        }
        s.due(Way.NEW, "text(0, 0)", x -> x.text(0, 0), 0);
        s.due(x -> x.text(0, 0), "count(7) with a TEXT of none", x -> x.count(7), 1);
        s.found(x -> x.text(0, 0), "put(0, 0, 65) of none", x -> x.put(0, 0, 65), Sentences.BEYOND);
        s.due(Way.NEW, "text(3, 80)", x -> x.text(3, 80), 80);
        s.due(x -> x.text(3, 80), "put(3, 79, 65)", x -> x.put(3, 79, 65), 1032);
        s.found(x -> x.text(3, 80), "put(3, 80, 65)", x -> x.put(3, 80, 65), Sentences.BEYOND);
        Way written = Way.text(1, "x".repeat(80));
        for (int i = 0; i < 80; i++) {
            int at = i;
            s.due(written.then(x -> x.text(1, 80)), "put(1, " + i + ", 65) of a TEXT made anew",
                    x -> x.put(1, at, 65), 1032);
        }
        s.due(written.then(x -> x.text(1, 3)).then(x -> x.text(1, 80)), "put(1, 3, 65) of a TEXT that was cut",
                x -> x.put(1, 3, 65), 1032);
        s.found(written.then(x -> x.text(1, 3)), "put(1, 3, 65) of a TEXT made shorter", x -> x.put(1, 3, 65),
                Sentences.BEYOND);
        s.says("8", "BAD");
        for (int t : NO_TEXTS) s.refused(THREE, "text(" + t + ", 1)", x -> x.text(t, 1), Sentences.BAD);
        s.says("8", "also n above 80");
        s.refused(THREE, "text(0, 81)", x -> x.text(0, 81), Sentences.BAD);
        s.refused(THREE, "text(3, 81)", x -> x.text(3, 81), Sentences.BAD);
        s.refused(THREE, "text(0, most)", x -> x.text(0, Sentences.MOST), Sentences.BAD);
        s.says("8", "SIZE: below 0.");
        s.found(THREE, "text(0, -1)", x -> x.text(0, -1), Sentences.SIZE);
        s.found(THREE, "text(3, -1)", x -> x.text(3, -1), Sentences.SIZE);
        s.found(THREE, "text(3, least)", x -> x.text(3, Sentences.LEAST), Sentences.SIZE);
    }

    private static void put(Sentences s) {
        s.says("9", "Byte i of a TEXT is v");
        s.due(THREE, "put(1, 0, 65)", x -> x.put(1, 0, 65), 1113);
        s.due(THREE, "put(1, 2, 65)", x -> x.put(1, 2, 65), 1098);
        s.due(THREE.then(x -> x.put(1, 2, 65)), "put(1, 2, 0) behind 65", x -> x.put(1, 2, 0), 1065);
        s.due(THREE.then(x -> x.put(1, 2, 65)), "put(1, 1, 0), another byte", x -> x.put(1, 1, 0), 1050);
        s.due(THREE.then(x -> x.put(1, 2, 65)), "put(0, 2, 0), another TEXT", x -> x.put(0, 2, 0), 1098);
        s.says("9", "cut to a byte: what it was, and 1000 more.");
        int[][] cut = {{0, 0}, {127, 127}, {128, -128}, {255, -1}, {256, 0}, {257, 1}, {-1, -1}, {-128, -128},
            {-129, 127}, {Sentences.LEAST, 0}, {Sentences.MOST, -1}};
        for (int[] pair : cut) {
            s.due(THREE.then(x -> x.put(1, 0, pair[0])), "put(1, 0, 65) behind " + pair[0], x -> x.put(1, 0, 65),
                    1000 + pair[1]);
        }
        s.due(THREE.then(x -> x.put(0, 2, 256 + 'u')), "fault(0) of a cut letter", x -> x.fault(0), Sentences.NONE);
        s.says("9", "BAD");
        for (int t : NO_TEXTS) s.refused(THREE, "put(" + t + ", 0, 65)", x -> x.put(t, 0, 65), Sentences.BAD);
        s.says("9", "NOTHING");
        s.found(THREE, "put(3, 0, 65)", x -> x.put(3, 0, 65), Sentences.NOTHING);
        s.found(THREE, "put(3, -1, 65)", x -> x.put(3, -1, 65), Sentences.NOTHING);
        s.says("9", "BEYOND");
        for (int i : new int[] {-1, 3, 80, Sentences.LEAST, Sentences.MOST}) {
            s.found(THREE, "put(1, " + i + ", 65)", x -> x.put(1, i, 65), Sentences.BEYOND);
        }
        s.found(THREE, "put(2, 0, 65) of none", x -> x.put(2, 0, 65), Sentences.BEYOND);
    }

    /** The FAULT of these signs, and that piece() takes them just if there is none. */
    private static void faultOf(Sentences s, String signs, int want) {
        Way way = Way.text(3, signs);
        s.due(way, "fault of '" + signs + "'", x -> x.fault(3), want);
        s.due(way, "whether piece() takes '" + signs + "'", x -> x.piece(3) > 0 ? 1 : 0, want == Sentences.NONE ? 1 : 0);
    }

    private static void blanks(Sentences s) {
        s.says("Terms", "blanks (32) ahead, between, behind as many as wanted");
        faultOf(s, "q2b01u23", Sentences.NONE);
        faultOf(s, " q2b01u23", Sentences.NONE);
        faultOf(s, "q2 b01u23", Sentences.NONE);
        faultOf(s, "q2b01 u23", Sentences.NONE);
        faultOf(s, "q2b01u23 ", Sentences.NONE);
        faultOf(s, "    q2     b01   u23    ", Sentences.NONE);
        faultOf(s, " ".repeat(75) + "q2b01", Sentences.NONE);
        faultOf(s, "q2b01" + " ".repeat(75), Sentences.NONE);
        for (char other : new char[] {0, 9, 10, 13, 31, 33, 160, 224}) {
            faultOf(s, other + "q2b01", 0);
            faultOf(s, "q2" + other + "b01", 2);
            faultOf(s, "q2b01" + other + "u23", 5);
            faultOf(s, "q2b01" + other, 5);
        }
        s.says("Terms", "none within items");
        faultOf(s, "q 2b01", 1);
        faultOf(s, "q2b 01", 3);
        faultOf(s, "q2b0 1", 4);
        faultOf(s, "q4b012 3", 6);
    }

    private static void firstItem(Sentences s) {
        s.says("Terms", "The first item is q (113)");
        for (int sign = 0; sign < 256; sign++) {
            if (sign == ' ') faultOf(s, " 2b01", 1);
            else faultOf(s, (char) sign + "2b01", sign == 113 ? Sentences.NONE : 0);
        }
        faultOf(s, "b01", 0);
        faultOf(s, "b01q2", 0);
        faultOf(s, "q2q2b01", 2);
        faultOf(s, "q2b01q2", 5);
        s.says("Terms", "how many PLAYERS (2 to 4, one figure)");
        for (int sign = 0; sign < 256; sign++) {
            boolean more = sign == '3' || sign == '4';
            faultOf(s, "q" + (char) sign + "b01", sign == '2' ? Sentences.NONE : more ? 5 : 1);
        }
        faultOf(s, "q3b012", Sentences.NONE);
        faultOf(s, "q4b0123", Sentences.NONE);
        faultOf(s, "q1b0", 1);
        faultOf(s, "q5b01234", 1);
        faultOf(s, "q02b01", 1);
        faultOf(s, "q22b01", 2);
        faultOf(s, "q-2b01", 1);
        for (int players = 2; players <= 4; players++) {
            Way way = Way.piece("q" + players + "b" + "0".repeat(players));
            s.due(way, "count(0) of q" + players, x -> x.count(0), players);
        }
    }

    private static void places(Sentences s) {
        s.says("Terms", "Then PLACES (1 to 14");
        faultOf(s, "q2", 2);
        faultOf(s, "q2b01", Sentences.NONE);
        faultOf(s, "q2" + "b01".repeat(13), Sentences.NONE);
        faultOf(s, FOURTEEN, Sentences.NONE);
        faultOf(s, FOURTEEN + "b01", 44);
        faultOf(s, "q4" + "b0123".repeat(14), Sentences.NONE);
        faultOf(s, "q4" + "b0123".repeat(15), 72);
        s.says("Terms", "0, 1, .. as they come)");
        Way way = Way.piece("q2b00b01b02b03b04b05b06b07b10b11b12b13b14b15");
        for (int i = 0; i < 14; i++) {
            int x = i;
            s.due(way, "note(0, " + i + ")", o -> o.note(0, x), i / 8);
            s.due(way, "note(1, " + i + ")", o -> o.note(1, x), i % 8);
        }
    }

    private static void notes(Sentences s) {
        s.says("Terms", "a letter, the NOTE of each PLAYER (one figure each: 0 .. 7");
        for (int sign = 0; sign < 256; sign++) {
            boolean figure = sign >= '0' && sign <= '9';
            faultOf(s, "q2b0" + (char) sign, figure ? Sentences.NONE : 4);
            faultOf(s, "q2b" + (char) sign + "0", figure ? Sentences.NONE : 3);
        }
        faultOf(s, "q2b012", 5);
        faultOf(s, "q3b01u012", 5);
        faultOf(s, "q2b0", 4);
        Way four = Way.piece("q4b0246u1357");
        for (int p = 0; p < 4; p++) {
            int of = p;
            s.due(four, "note(" + p + ", 0)", x -> x.note(of, 0), 2 * p);
            s.due(four, "note(" + p + ", 1)", x -> x.note(of, 1), 2 * p + 1);
        }
        s.says("Terms", "8, 9 a REST)");
        for (int note = 0; note <= 9; note++) {
            int of = note;
            Way way = Way.piece("q2b" + note + "0");
            s.due(way, "note(0, 0)", x -> x.note(0, 0), of);
            s.tells(way, "place(0, 2) with a " + note, x -> x.place(0, 2), note < 8 ? 2 : 1);
        }
    }

    private static void faults(Sentences s) {
        s.says("Terms", "A FAULT is the first place at which it can't go on so");
        faultOf(s, "q2b0xb9y", 4);
        faultOf(s, "xq2b01", 0);
        faultOf(s, "q9x", 1);
        faultOf(s, "q2 b01 u2? z", 9);
        s.says("Terms", "(a letter, a figure that is none such");
        for (int sign = 0; sign < 256; sign++) {
            boolean letter = "bulgtc".indexOf(sign) >= 0;
            faultOf(s, "q2" + (char) sign + "01", letter ? Sentences.NONE : sign == ' ' ? 3 : 2);
        }
        faultOf(s, "q2b01B01", 5);
        s.says("Terms", "a fifteenth PLACE: its place");
        faultOf(s, FOURTEEN + "b", 44);
        faultOf(s, FOURTEEN + "b0", 44);
        faultOf(s, FOURTEEN + "   b01", 47);
        faultOf(s, FOURTEEN + "z", 44);
        faultOf(s, FOURTEEN + "0", 44);
        faultOf(s, FOURTEEN + "b01b01", 44);
        faultOf(s, FOURTEEN + "   ", Sentences.NONE);
        faultOf(s, "q2b0x" + "b01".repeat(14), 4);
    }

    private static void ends(Sentences s) {
        s.says("Terms", "the TEXT's size, if its end comes too early");
        faultOf(s, "q", 1);
        faultOf(s, "  q", 3);
        faultOf(s, "q2b", 3);
        faultOf(s, "q2b0", 4);
        faultOf(s, "q4b012", 6);
        faultOf(s, "q2b01u2", 7);
        faultOf(s, "q2b01" + " ".repeat(74) + "b", 80);
        s.says("Terms", "or there is no PLACE");
        faultOf(s, "q2", 2);
        faultOf(s, "q4", 2);
        faultOf(s, " q3  ", 5);
        faultOf(s, "q2" + " ".repeat(78), 80);
        s.says("Terms", "or there are blanks alone)");
        faultOf(s, "", 0);
        faultOf(s, " ", 1);
        faultOf(s, " ".repeat(80), 80);
    }

    private static void fault(Sentences s) {
        s.says("10", "A FAULT of a TEXT");
        s.due(THREE, "fault(1)", x -> x.fault(1), 3);
        s.due(THREE, "fault(2) of none", x -> x.fault(2), 0);
        s.refused(THREE, "fault(1) changes nothing", x -> x.fault(1), 3);
        s.says("10", "NONE: there is none.");
        s.refused(THREE, "fault(0)", x -> x.fault(0), Sentences.NONE);
        s.says("10", "BAD");
        for (int t : NO_TEXTS) s.refused(THREE, "fault(" + t + ")", x -> x.fault(t), Sentences.BAD);
        s.says("10", "NOTHING");
        s.found(THREE, "fault(3)", x -> x.fault(3), Sentences.NOTHING);
    }

    private static void piece(Sentences s) {
        s.says("11", "how many PLACES.");
        s.due(THREE, "piece(0)", x -> x.piece(0), 1);
        s.due(Way.text(3, FOURTEEN), "piece(3)", x -> x.piece(3), 14);
        s.due(THREE.then(x -> x.piece(0)), "count(1)", x -> x.count(1), 1);
        s.due(THREE.then(x -> x.piece(0)).then(Way.piece("q3u012l345")), "a lesser PIECE by a greater one: count(0)",
                x -> x.count(0), 3);
        s.due(Way.piece(FOURTEEN).then(Way.text(1, "q2u01")), "a greater PIECE by a lesser one", x -> x.piece(1), 1);
        s.refused(Way.piece(FOURTEEN).then(Way.piece("q2u01")), "note(0, 1) of the greater one", x -> x.note(0, 1),
                Sentences.BAD);
        s.due(Way.piece("q2b01").then(x -> x.put(0, 3, '5')), "note(0, 0) though the TEXT changed", x -> x.note(0, 0), 0);
        s.due(Way.piece("q2b01").then(x -> x.text(0, 0)), "note(1, 0) though the TEXT is another", x -> x.note(1, 0), 1);
    }

    private static final Way EVENING = Way.piece("q2 b01 g00 u12 u34").then(x -> x.play()).then(x -> x.slip(0, 1))
            .then(x -> x.image(1)).then(x -> x.anew(0)).then(x -> x.play()).then(x -> x.slip(1, -1));

    private static void pieceAnew(Sentences s) {
        s.says("11", "at PLACE 0");
        s.told(EVENING.then(x -> x.piece(0)), "here()", BarBehind::here, 0, 0);
        s.says("11", "nobody OUT");
        s.due(EVENING.then(x -> x.piece(0)), "count(3)", x -> x.count(3), 0);
        s.due(EVENING.then(x -> x.piece(0)), "out(1)", x -> x.out(1), 2);
        s.says("11", "nothing PLAYED");
        s.due(EVENING.then(x -> x.piece(0)), "heard(0)", x -> x.heard(0), 0);
        s.due(EVENING.then(x -> x.piece(0)), "fits()", BarBehind::fits, 25);
        s.due(EVENING.then(x -> x.piece(0)), "count(2)", x -> x.count(2), 0);
        Way full = Way.piece("q2 b01 g00 u12 u34").idle(40).then(x -> x.piece(0));
        s.due(full, "play() though 40 DEEDS were done", BarBehind::play, 1);
        s.says("11", "kept EVENINGS go)");
        s.due(EVENING.then(x -> x.piece(0)), "count(8)", x -> x.count(8), 0);
        for (int k = 0; k < 3; k++) {
            int of = k;
            Way kept = Way.piece("q2b01").then(x -> x.image(of)).then(x -> x.piece(0));
            s.found(kept, "restore(" + k + ")", x -> x.restore(of), Sentences.NOTHING);
        }
        s.says("11", "A PIECE by a TEXT (anew");
        s.alike("piece(0) again", EVENING.then(x -> x.piece(0)), Way.piece("q2 b01 g00 u12 u34"));
        Way used = Way.piece("q4" + "g0123".repeat(14)).plays(3).outs(1, 1, 1, 1).then(Way.ASKS).plays(11).then(Way.ASKS);
        for (String signs : new String[] {"q2u01", "q2 u12 u34", "q3 l012 g345 b016", "q2 t00 c01 b28"}) {
            s.alikeFromHereOn("piece(0) of " + signs, used.then(Way.piece(signs)), Way.piece(signs));
            s.alikeFromHereOn("piece(0) of " + signs + ", PLAYED", used.then(Way.piece(signs)).outs(0, 1).plays(3),
                    Way.piece(signs).outs(0, 1).plays(3));
        }
    }

    private static void pieceRefused(Sentences s) {
        Way both = EVENING.then(Way.text(1, "q2b")).then(x -> x.text(2, 0));
        s.says("11", "BAD");
        for (int t : NO_TEXTS) s.refused(both, "piece(" + t + ")", x -> x.piece(t), Sentences.BAD);
        s.says("11", "NOTHING");
        s.found(both, "piece(3)", x -> x.piece(3), Sentences.NOTHING);
        s.says("11", "STATE: a FAULT.");
        s.refused(both, "piece(1)", x -> x.piece(1), Sentences.STATE);
        s.refused(both, "piece(2) of none", x -> x.piece(2), Sentences.STATE);
        s.refused(both.then(Way.text(3, FOURTEEN + "b01")), "piece(3) of fifteen", x -> x.piece(3), Sentences.STATE);
        s.refused(Way.text(1, "q2b"), "piece(1) without PLACES", x -> x.piece(1), Sentences.STATE);
        s.says("11", "(STATE behind NOTHING.)");
        s.found(Way.NEW, "piece(0)", x -> x.piece(0), Sentences.NOTHING);
    }
}
