/** OUTS of the Terms, promises 26 to 31 and 42, sentence by sentence, at their edges. */
final class EdgesOfBelief {
    private static final int[] NOT_TWO = {-1, 2, 3, Sentences.LEAST, Sentences.MOST};

    /** HEARD as 1, 0, 1, which no OUTS give all along. */
    private static final Way CONTRARY = Way.piece("q2 u01 u01 u01").plays(1).then(2, x -> x.slip(0, -1)).plays(1)
            .then(2, x -> x.slip(0, 1)).plays(1);

    /** Nobody can be OUT: on PLACE 0 just those behind are silent, on PLACE 1 just those ahead. */
    private static final Way SURE = Way.piece("q2 u12 u34").plays(2);

    private EdgesOfBelief() {
    }

    static void hold(Sentences s) {
        figures(s);
        fit(s);
        weights(s);
        chances(s);
        fits(s);
        odds(s);
        self(s);
        who(s);
        whoRefused(s);
        likely(s);
        began(s);
        beganBetween(s);
        aloud(s);
        askedBehindOthers(s);
    }

    /**
     * Five PLACES of which only PLACE 2 tells: the first PLAYER sounds on it alone; another one, who is OUT by one
     * of the spots if the two CLASH on it, sounds on those alone; all the others rest.
     */
    private static String telling(int players, int first, int other, int... spots) {
        StringBuilder signs = new StringBuilder("q" + players);
        for (int at = 0; at < 5; at++) {
            signs.append(at == 2 ? 'u' : 'l');
            for (int p = 0; p < players; p++) {
                char note = p == first && at == 2 ? '0' : '8';
                for (int spot : spots) if (p == other && at == 2 + spot) note = '1';
                signs.append(note);
            }
        }
        return signs.toString();
    }

    /** PLAYED till it is told that both are OUT by 2: OUTS of the least weight. */
    private static final Way FARTHEST = Way.piece("q2l88l88u88l88l01").outs(2, 2).plays(3);

    /** PLAYED till it is told that PLAYER 0 of two is OUT by one of the spots, PLAYER 1 not. */
    private static Way either(int... spots) {
        return Way.piece(telling(2, 1, 0, spots)).outs(spots[0]).plays(3);
    }

    private static void figures(Sentences s) {
        s.says("Terms", "OUTS (of all PLAYERS) are told as figures: 0 for -2, 1 for -1, .. 4 for 2, to the base of 5, "
                + "PLAYER 0 the lowest one.");
        for (int d = -2; d <= 2; d++) {
            s.due(either(d), "likely() with PLAYER 0 OUT by " + d, BarBehind::likely, d + 2 + 10);
            s.told(either(d), "fits() with PLAYER 0 OUT by " + d, BarBehind::fits, 1, d + 2 + 10);
            Way second = Way.piece(telling(2, 0, 1, d)).outs(0, d).plays(3);
            s.due(second, "likely() with PLAYER 1 OUT by " + d, BarBehind::likely, 2 + 5 * (d + 2));
            Way third = Way.piece(telling(3, 0, 2, d)).outs(0, 0, d).plays(3);
            s.due(third, "likely() with PLAYER 2 OUT by " + d, BarBehind::likely, 2 + 10 + 25 * (d + 2));
            Way fourth = Way.piece(telling(4, 0, 3, d)).outs(0, 0, 0, d).plays(3);
            s.due(fourth, "likely() with PLAYER 3 OUT by " + d, BarBehind::likely, 2 + 10 + 50 + 125 * (d + 2));
            s.told(fourth, "fits() with PLAYER 3 OUT by " + d, BarBehind::fits, 25, 2 + 125 * (d + 2));
        }
    }

    private static void fit(Sentences s) {
        s.says("Terms", "They FIT, if with these, all along");
        s.told(CONTRARY, "fits()", BarBehind::fits, 0, Sentences.NONE);
        s.says("Terms", "on each PLACE that was PLAYED since THE PIECE began (anew)");
        Way two = Way.piece("q2 u01 g01");
        s.due(two, "fits() behind none", BarBehind::fits, 25);
        // On PLACE 0 both sound who are not OUT or ahead by 1, on PLACE 1 who are not OUT or behind by 1.
        s.due(two.plays(1), "fits() behind the first", BarBehind::fits, 4);
        s.due(two.plays(2), "fits() behind both", BarBehind::fits, 1);
        s.due(two.then(x -> x.anew(0)).plays(1), "fits() behind the second alone", BarBehind::fits, 4);
        s.due(two.plays(2).then(x -> x.anew(0)), "fits() anew", BarBehind::fits, 25);
        s.due(two.outs(-2).plays(1).then(x -> x.anew(0)).plays(1), "fits() behind one anew", BarBehind::fits, 4);
        s.says("Terms", "just that would have been HEARD which was.");
        s.told(Way.piece("q2u01").plays(1), "fits() though it CLASHED", BarBehind::fits, 1, 12);
        s.told(Way.piece("q2u01").outs(1).plays(1), "fits() though it did not", BarBehind::fits, 24, 0);
        s.told(Way.piece("q3u012").plays(1), "fits() of all PAIRS", BarBehind::fits, 1, 62);
        s.told(Way.piece("q3u012").outs(0, 0, 1).plays(1), "fits() of one PAIR", BarBehind::fits, 4, 12);
        s.told(Way.piece("q3u012").outs(1).plays(1), "fits() of another PAIR", BarBehind::fits, 4, 60);
    }

    private static void weights(Sentences s) {
        s.says("Terms", "OUTS weigh 4 for each PLAYER who is not OUT, 2 for each who is by 1, 1 for each by 2");
        s.chance(either(0, 1), "odds(0) by 1", x -> x.odds(0), 1, 3);
        s.chance(either(0, -1), "odds(0) by -1", x -> x.odds(0), 1, 3);
        s.chance(either(0, 2), "odds(0) by 2", x -> x.odds(0), 1, 5);
        s.chance(either(0, -2), "odds(0) by -2", x -> x.odds(0), 1, 5);
        s.chance(either(0, 1, 2), "odds(0) by 1 or 2", x -> x.odds(0), 3, 7);
        s.chance(either(0, 1, 2, -1, -2), "odds(0) by any", x -> x.odds(0), 3, 5);
        s.says("Terms", "multiplied.");
        s.chance(Way.piece("q2 l88 l88 c01 l45 l88").plays(3), "odds(0), both by 1", x -> x.odds(0), 1, 5);
        s.chance(Way.piece("q2 l88 l88 c01 l88 l45").plays(3), "odds(0), both by 2", x -> x.odds(0), 1, 17);
        s.chance(Way.piece("q2 l88 l85 c01 l48 l88").plays(3), "odds(1), by 1 and -1", x -> x.odds(1), 1, 5);
        s.chance(Way.piece("q2 l85 l88 c01 l48 l88").plays(3), "odds(1), by 1 and -2", x -> x.odds(1), 1, 9);
    }

    private static void chances(Sentences s) {
        s.says("Terms", "Chances are told by upper(), lower(), in lowest terms");
        s.chance(Way.piece("q2b01"), "odds(0), 6 by 10", x -> x.odds(0), 3, 5);
        s.chance(Way.piece("q4b0123"), "odds(3), 600 by 1000", x -> x.odds(3), 3, 5);
        s.chance(Way.piece("q4b0123"), "self(0), 3744 by 4000", x -> x.self(0), 117, 125);
        s.chance(either(1), "odds(0), 8 by 8", x -> x.odds(0), 1, 1);
        s.says("Terms", "the lower number above 0 (0 by 1).");
        s.chance(SURE, "odds(0) of 0", x -> x.odds(0), 0, 1);
        s.chance(SURE, "self(0) of 0", x -> x.self(0), 0, 1);
        s.chance(either(1), "odds(1) of 0", x -> x.odds(1), 0, 1);
    }

    private static void fits(Sentences s) {
        s.says("26", "How many OUTS FIT");
        s.due(Way.piece("q2b01"), "fits() of two", BarBehind::fits, 25);
        s.due(Way.piece("q3b012"), "fits() of three", BarBehind::fits, 125);
        s.due(Way.piece("q4b0123"), "fits() of four", BarBehind::fits, 625);
        s.due(Way.piece("q2l01").plays(1), "fits() behind a LONG, when OVER", BarBehind::fits, 25);
        s.due(SURE, "fits() of just one", BarBehind::fits, 1);
        s.due(either(1, -1, 2), "fits() of three spots", BarBehind::fits, 3);
        s.says("26", "the first by asked() (NONE: none).");
        s.told(Way.piece("q4b0123"), "fits()", BarBehind::fits, 625, 0);
        s.told(either(2), "fits()", BarBehind::fits, 1, 14);
        s.told(either(1, -1, 2), "fits()", BarBehind::fits, 3, 11);
        s.told(CONTRARY, "fits() of none", BarBehind::fits, 0, Sentences.NONE);
        s.says("26", "STATE: no PLACES.");
        s.refused(Way.NEW, "fits()", BarBehind::fits, Sentences.STATE);
    }

    private static void odds(Sentences s) {
        s.says("27", "Chances that a PLAYER is OUT, by OUTS that FIT and what they weigh, told by upper(), lower(): 1.");
        for (int p = 0; p < 4; p++) {
            int of = p;
            s.chance(Way.piece("q4b0123"), "odds(" + p + ") behind nothing", x -> x.odds(of), 3, 5);
        }
        s.chance(either(1), "odds(0)", x -> x.odds(0), 1, 1);
        s.chance(either(-2, 2), "odds(0)", x -> x.odds(0), 1, 1);
        s.chance(either(0), "odds(0)", x -> x.odds(0), 0, 1);
        s.chance(either(0, 2), "odds(0)", x -> x.odds(0), 1, 5);
        s.chance(either(0, 2), "odds(1)", x -> x.odds(1), 0, 1);
        s.says("27", "BAD");
        for (int p : NOT_TWO) s.refused(SURE, "odds(" + p + ")", x -> x.odds(p), Sentences.BAD);
        s.refused(CONTRARY, "odds(2) when none FIT", x -> x.odds(2), Sentences.BAD);
        s.refused(Way.piece("q4b0123"), "odds(4) of four", x -> x.odds(4), Sentences.BAD);
        s.refused(Way.NEW, "odds(0) without PLAYERS", x -> x.odds(0), Sentences.BAD);
        s.says("27", "NOUGHT: none FIT.");
        s.found(CONTRARY, "odds(0)", x -> x.odds(0), Sentences.NOUGHT);
        s.found(CONTRARY, "odds(1)", x -> x.odds(1), Sentences.NOUGHT);
    }

    private static void self(Sentences s) {
        s.says("28", "Likewise as that PLAYER believes, who takes only OUTS that FIT with that one not OUT: "
                + "chances that anybody is OUT.");
        s.chance(Way.piece("q2b01"), "self(0) of two", x -> x.self(0), 3, 5);
        s.chance(Way.piece("q3b012"), "self(2) of three", x -> x.self(2), 21, 25);
        s.chance(Way.piece("q4b0123"), "self(3) of four", x -> x.self(3), 117, 125);
        s.chance(SURE, "self(1)", x -> x.self(1), 0, 1);
        s.chance(either(1), "self(1)", x -> x.self(1), 1, 1);
        s.chance(either(0, 2), "self(1)", x -> x.self(1), 1, 5);
        s.chance(either(0, 2), "self(0), who believes to be right", x -> x.self(0), 0, 1);
        s.says("28", "BAD");
        for (int p : NOT_TWO) s.refused(SURE, "self(" + p + ")", x -> x.self(p), Sentences.BAD);
        s.refused(CONTRARY, "self(2) when none FIT", x -> x.self(2), Sentences.BAD);
        s.refused(Way.piece("q4b0123"), "self(4) of four", x -> x.self(4), Sentences.BAD);
        s.refused(Way.NEW, "self(0) without PLAYERS", x -> x.self(0), Sentences.BAD);
        s.says("28", "NOUGHT: none FIT so.");
        s.found(either(1), "self(0), who is OUT for sure", x -> x.self(0), Sentences.NOUGHT);
        s.found(either(-2, 2), "self(0), who is OUT either way", x -> x.self(0), Sentences.NOUGHT);
        s.found(CONTRARY, "self(0)", x -> x.self(0), Sentences.NOUGHT);
        s.found(CONTRARY, "self(1)", x -> x.self(1), Sentences.NOUGHT);
    }

    private static void who(Sentences s) {
        s.says("29", "The PLAYER who is OUT most likely (the first)");
        s.due(Way.piece("q4b0123"), "who() of all alike", BarBehind::who, 0);
        s.due(either(1), "who()", BarBehind::who, 0);
        s.due(Way.piece(telling(2, 0, 1, 1)).outs(0, 1).plays(3), "who()", BarBehind::who, 1);
        s.due(Way.piece(telling(4, 0, 3, 1)).outs(0, 0, 0, 1).plays(3), "who() of four", BarBehind::who, 3);
        s.due(Way.piece(telling(4, 0, 3, 0)).plays(3), "who() of two alike", BarBehind::who, 1);
        s.due(FARTHEST, "who() of both OUT by 2", BarBehind::who, 0);
        s.says("29", "by how much most likely (-2 .. 2, and 2 more");
        for (int d = -2; d <= 2; d++) {
            if (d != 0) s.told(either(d), "who() by " + d, BarBehind::who, 0, d + 2);
        }
        s.told(either(-2, 1), "who() by -2 or 1", BarBehind::who, 0, 3);
        s.told(either(2, -1), "who() by 2 or -1", BarBehind::who, 0, 1);
        s.says("29", "not 0");
        s.told(either(0, 2), "who() by 0 or 2", BarBehind::who, 0, 4);
        s.told(either(0, -2), "who() by 0 or -2", BarBehind::who, 0, 0);
        s.told(either(0, 1), "who() by 0 or 1", BarBehind::who, 0, 3);
        s.says("29", "of alike ones the first) by asked().");
        s.told(Way.piece("q2b01"), "who() behind nothing", BarBehind::who, 0, 1);
        s.told(either(1, -1), "who() by 1 or -1", BarBehind::who, 0, 1);
        s.told(either(2, -2), "who() by 2 or -2", BarBehind::who, 0, 0);
        // PLAYER 0 by -2 and 1 by 0 weigh as much as by -1 and 1.
        s.told(Way.piece("q2l08l48c81l85l88").outs(-2).plays(3), "who() by -2 or -1", BarBehind::who, 0, 0);
    }

    private static void whoRefused(Sentences s) {
        s.says("29", "NONE: nobody can be.");
        s.refused(SURE, "who()", BarBehind::who, Sentences.NONE);
        s.refused(either(0), "who()", BarBehind::who, Sentences.NONE);
        s.says("29", "NOUGHT: none FIT.");
        s.found(CONTRARY, "who()", BarBehind::who, Sentences.NOUGHT);
        s.says("29", "STATE: no PLACES (ahead of NOUGHT).");
        s.refused(Way.NEW, "who()", BarBehind::who, Sentences.STATE);
    }

    private static void likely(Sentences s) {
        s.says("30", "The OUTS that FIT and weigh most (the first).");
        s.due(Way.piece("q2b01"), "likely() of two", BarBehind::likely, 12);
        s.due(Way.piece("q3b012"), "likely() of three", BarBehind::likely, 62);
        s.due(Way.piece("q4b0123"), "likely() of four", BarBehind::likely, 312);
        s.due(either(-2, 1), "likely() by -2 or 1", BarBehind::likely, 13);
        s.due(either(2, -1), "likely() by 2 or -1", BarBehind::likely, 11);
        s.due(either(-2, 0), "likely() by -2 or 0", BarBehind::likely, 12);
        s.due(either(1, -1), "likely() by 1 or -1", BarBehind::likely, 11);
        s.due(either(2, -2), "likely() by 2 or -2", BarBehind::likely, 10);
        s.due(FARTHEST, "likely() of both OUT by 2", BarBehind::likely, 24);
        s.says("30", "NONE: none FIT.");
        s.refused(CONTRARY, "likely()", BarBehind::likely, Sentences.NONE);
        s.says("30", "STATE: no PLACES.");
        s.refused(Way.NEW, "likely()", BarBehind::likely, Sentences.STATE);
    }

    private static void began(Sentences s) {
        s.says("31", "By how many ways just one PLAYER (not OUT till then) can have slipped just once");
        s.told(Way.piece("q4" + "l0123".repeat(14)).plays(14), "began() of fourteen", BarBehind::began, 14 * 8, 16383);
        s.told(Way.piece("q3" + "l012".repeat(2)).plays(2), "began() of three", BarBehind::began, 2 * 6, 3);
        s.told(Way.piece("q2u01").outs(0, 1).plays(1), "began() of either one", BarBehind::began, 4, 1);
        s.told(CONTRARY, "began() of what one slip can't do", BarBehind::began, 0, 0);
        // PLAYERS 0 and 1 both have to be silent.
        Way both = Way.piece("q3u011").outs(1, 1).plays(1);
        s.told(both, "began() of what needs no second one", BarBehind::began, 2, 1);
        s.told(Way.piece("q4u0011").outs(1, 1).plays(1), "began() of what needs two", BarBehind::began, 0, 0);
        s.says("31", "(by -1 or 1");
        for (int d = -2; d <= 2; d++) {
            boolean byOne = Math.abs(d) == 1;
            s.told(either(d), "began() of OUT by " + d, BarBehind::began, byOne ? 3 : 0, byOne ? 7 : 0);
        }
    }

    private static void beganBetween(Sentences s) {
        s.says("31", "ahead of a PLACE that was PLAYED since it began, the first one, too)");
        s.told(Way.piece("q2u01"), "began() behind nothing", BarBehind::began, 0, 0);
        s.told(Way.piece("q2l01l01"), "began() behind nothing", BarBehind::began, 0, 0);
        s.told(Way.piece("q2l01l01").plays(1), "began() behind the first", BarBehind::began, 4, 1);
        s.told(Way.piece("q2l01l01").plays(2), "began() behind both", BarBehind::began, 8, 3);
        Way four = Way.piece("q2 l00 l00 g00 l00");
        s.told(four.plays(2).then(x -> x.anew(0)), "began() anew", BarBehind::began, 0, 0);
        s.told(four.plays(2).then(x -> x.anew(0)).plays(1), "began() behind one anew", BarBehind::began, 4, 4);
        s.told(four.plays(2).then(x -> x.anew(0)).plays(2), "began() behind two anew", BarBehind::began, 8, 12);
        s.told(four.plays(1).then(x -> x.slip(0, 1)), "began() though one slipped behind", BarBehind::began, 4, 1);
        s.says("31", "so that that was HEARD which was");
        s.told(Way.piece("q2 u01 l01").plays(2), "began() of what a LONG hides", BarBehind::began, 6, 3);
        s.told(either(0).plays(1), "began() behind the PLACE that tells", BarBehind::began, 4, 8);
        s.told(either(0), "began() though nobody can have", BarBehind::began, 0, 0);
        s.says("31", "PLACES ahead of which (bits) by asked().");
        s.told(Way.piece("q2" + "l01".repeat(13) + "g01").then(x -> x.anew(0)).outs(1).plays(1), "began() on PLACE 13",
                BarBehind::began, 2, 1 << 13);
        s.told(either(-1), "began() on three", BarBehind::began, 3, 7);
        s.says("31", "STATE: no PLACES.");
        s.refused(Way.NEW, "began()", BarBehind::began, Sentences.STATE);
    }

    private static void askedBehindOthers(Sentences s) {
        Way known = either(1).then(Way.ASKS);
        s.says("26", "How many OUTS FIT");
        s.told(known, "fits() behind others", BarBehind::fits, 1, 13);
        s.told(Way.piece("q2u01").then(Way.ASKS).plays(1), "fits() once more is known", BarBehind::fits, 1, 12);
        s.says("27", "Chances that a PLAYER is OUT, by OUTS that FIT");
        s.chance(known, "odds(0) behind others", x -> x.odds(0), 1, 1);
        s.chance(Way.piece("q2u01").then(Way.ASKS).plays(1), "odds(0) once more is known", x -> x.odds(0), 0, 1);
        s.says("28", "chances that anybody is OUT.");
        s.chance(known, "self(1) behind others", x -> x.self(1), 1, 1);
        s.says("29", "The PLAYER who is OUT most likely");
        s.told(known, "who() behind others", BarBehind::who, 0, 3);
        s.says("30", "The OUTS that FIT and weigh most");
        s.due(known, "likely() behind others", BarBehind::likely, 13);
        Way later = Way.piece(telling(2, 1, 0, 2)).outs(2).then(Way.ASKS).plays(3);
        s.due(later, "likely() once more is known", BarBehind::likely, 14);
        s.says("31", "By how many ways");
        s.told(known, "began() behind others", BarBehind::began, 3, 7);
        s.told(Way.piece("q2l01g01").plays(2).then(Way.ASKS).then(x -> x.anew(0)), "began() anew behind others",
                BarBehind::began, 0, 0);
        s.says("42", "so that fewest OUTS FIT then");
        s.told(known, "aloud() behind others", BarBehind::aloud, 0, 0);
    }

    private static void aloud(Sentences s) {
        s.says("42", "Who should count aloud: the PLAYER of whom it is known that that one is not OUT, so that fewest "
                + "OUTS FIT then (the first)");
        s.due(Way.piece("q2b01"), "aloud() of all alike", BarBehind::aloud, 0);
        s.due(Way.piece(telling(3, 0, 2, 0)).plays(3), "aloud(), who may be anywhere", BarBehind::aloud, 1);
        s.due(Way.piece(telling(4, 0, 3, 0)).plays(3), "aloud() of two alike", BarBehind::aloud, 1);
        s.due(Way.piece(telling(3, 0, 2, 1)).outs(0, 0, 1).plays(3), "aloud(), who is OUT for sure", BarBehind::aloud, 2);
        s.says("42", "how many by asked().");
        s.told(Way.piece("q2b01"), "aloud() of two", BarBehind::aloud, 0, 5);
        s.told(Way.piece("q3b012"), "aloud() of three", BarBehind::aloud, 0, 25);
        s.told(Way.piece("q4b0123"), "aloud() of four", BarBehind::aloud, 0, 125);
        s.told(Way.piece(telling(3, 0, 2, 0)).plays(3), "aloud()", BarBehind::aloud, 1, 1);
        s.told(SURE, "aloud() of one", BarBehind::aloud, 0, 1);
        s.told(either(1), "aloud() of none", BarBehind::aloud, 0, 0);
        s.says("42", "NOUGHT: none FIT.");
        s.found(CONTRARY, "aloud()", BarBehind::aloud, Sentences.NOUGHT);
        s.says("42", "STATE: no PLACES (ahead of NOUGHT).");
        s.refused(Way.NEW, "aloud()", BarBehind::aloud, Sentences.STATE);
    }
}
