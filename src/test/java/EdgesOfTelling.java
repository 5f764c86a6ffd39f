/** Promises 32 to 36, sentence by sentence, at their edges. */
final class EdgesOfTelling {
    /** Each PLACE a UNISON of another NOTE. */
    private static final Way FIVE = Way.piece("q2 u00 u11 u22 u33 u44");
    private static final Way FOURTEEN = Way.piece("q2" + "l01".repeat(14));

    private EdgesOfTelling() {
    }

    static void hold(Sentences s) {
        tells(s);
        tellsRefused(s);
        best(s);
        hides(s);
        hidesRefused(s);
        fewest(s);
        fewestLeast(s);
        modern(s);
    }

    private static void toldBy(Sentences s, String signs, int at, int want) {
        s.due(Way.piece(signs), "tells(" + at + ") of " + signs, x -> x.tells(at), want);
    }

    private static void tells(Sentences s) {
        s.says("32", "How many unlike things can be HEARD of a PLACE, whatever the OUTS are.");
        toldBy(s, "q2l01", 0, 1);
        toldBy(s, "q2u00", 0, 1);
        toldBy(s, "q2u01", 0, 2);
        toldBy(s, "q3u001", 0, 4);
        // Of four unlike NOTES: the PAIRS of two, three or all who sound, or nothing.
        toldBy(s, "q4u0123", 0, 12);
        toldBy(s, "q2u00u00u11", 0, 2);
        toldBy(s, "q2u00u00u00u11", 0, 1);
        toldBy(s, "q2u00u00u00u11", 1, 2);
        toldBy(s, "q2u11u00u00u00", 3, 1);
        toldBy(s, "q2u11u00u00u00", 2, 2);
        toldBy(s, "q2" + "l00".repeat(13) + "u01", 13, 2);
        // All sound and CLASH, whatever the OUTS are: it is never silent.
        toldBy(s, "q2u01u01u01u01u01", 2, 1);
        // Only if both are OUT by -2, or both by 2, it CLASHES.
        toldBy(s, "q2l01l88u88", 2, 2);
        toldBy(s, "q2u88l88l01", 0, 2);
        toldBy(s, "q4l0888l8888u8888l8888l8881", 2, 2);
        toldBy(s, "q4l8801l8888u8888l8888l8888", 2, 2);
        s.due(Way.piece("q2u01").outs(1), "tells(0) though one is OUT", x -> x.tells(0), 2);
        s.due(Way.piece("q2u01").plays(1), "tells(0) when OVER", x -> x.tells(0), 2);
    }

    private static void tellsRefused(Sentences s) {
        s.says("32", "BAD.");
        for (int at : new int[] {-1, 5, 14, Sentences.LEAST, Sentences.MOST}) {
            s.refused(FIVE, "tells(" + at + ")", x -> x.tells(at), Sentences.BAD);
        }
        s.refused(FOURTEEN, "tells(14)", x -> x.tells(14), Sentences.BAD);
        s.refused(Way.NEW, "tells(0) without PLACES", x -> x.tells(0), Sentences.BAD);
        s.due(FIVE, "tells(4) of the last", x -> x.tells(4), 2);
    }

    private static void best(Sentences s) {
        s.says("33", "The PLACE that tells most (the first)");
        s.due(Way.piece("q2l01"), "best() of one", BarBehind::best, 0);
        s.due(Way.piece("q2l01u01u01"), "best() of alike ones", BarBehind::best, 1);
        s.due(FOURTEEN, "best() of fourteen alike", BarBehind::best, 0);
        s.due(Way.piece("q2" + "l00".repeat(13) + "u01"), "best() of the last", BarBehind::best, 13);
        s.due(Way.piece("q3u018l888l888u012"), "best() of two that tell", BarBehind::best, 3);
        s.says("33", "how much by asked().");
        s.told(Way.piece("q2l01"), "best()", BarBehind::best, 0, 1);
        s.told(Way.piece("q2l01u01u01"), "best()", BarBehind::best, 1, 2);
        s.told(Way.piece("q4u0123"), "best()", BarBehind::best, 0, 12);
        s.told(Way.piece("q3u018l888l888u012"), "best()", BarBehind::best, 3, 5);
        s.says("33", "STATE: no PLACES.");
        s.refused(Way.NEW, "best()", BarBehind::best, Sentences.STATE);
    }

    private static void hides(Sentences s) {
        s.says("34", "PLACES (bits) that hide it if one PLAYER alone is OUT by so much (-2 .. 2, no 0): "
                + "on which the same is HEARD as if nobody were.");
        int[][] silent = {{-2, 3}, {-1, 1}, {1, 16}, {2, 24}};
        for (int[] pair : silent) {
            for (int p = 0; p < 2; p++) {
                int of = p;
                String call = "hides(" + p + ", " + pair[0] + ")";
                s.refused(FIVE, call, x -> x.hides(of, pair[0]), pair[1]);
                s.due(FIVE.outs(1, -1), call + " though both are OUT", x -> x.hides(of, pair[0]), pair[1]);
                s.due(FIVE.plays(5), call + " when OVER", x -> x.hides(of, pair[0]), pair[1]);
                s.due(FOURTEEN, call + " of LONG ones", x -> x.hides(of, pair[0]), 16383);
            }
        }
        s.due(Way.piece("q2u01"), "hides(0, 1) of one that tells", x -> x.hides(0, 1), 0);
        s.due(Way.piece("q2u00"), "hides(0, 1) of one that hides", x -> x.hides(0, 1), 1);
        // It CLASHES either way, but not the same PAIR.
        s.due(Way.piece("q3u011u001"), "hides(1, 1) of another PAIR", x -> x.hides(1, 1), 0);
        s.due(Way.piece("q4u8881u8881"), "hides(3, -1) of one who sounds alone", x -> x.hides(3, -1), 3);
    }

    private static void hidesRefused(Sentences s) {
        s.says("34", "BAD.");
        for (int d : new int[] {0, -3, 3, Sentences.LEAST, Sentences.MOST}) {
            s.refused(FIVE, "hides(0, " + d + ")", x -> x.hides(0, d), Sentences.BAD);
        }
        for (int p : new int[] {-1, 2, 3, Sentences.LEAST, Sentences.MOST}) {
            s.refused(FIVE, "hides(" + p + ", 1)", x -> x.hides(p, 1), Sentences.BAD);
        }
        s.refused(Way.piece("q4u0123"), "hides(4, 1) of four", x -> x.hides(4, 1), Sentences.BAD);
        s.refused(Way.NEW, "hides(0, 1) without PLAYERS", x -> x.hides(0, 1), Sentences.BAD);
    }

    private static void fewest(Sentences s) {
        s.says("35", "The fewest PLACES (3 at most) on which together it is HEARD otherwise than if nobody were OUT");
        s.told(Way.piece("q2u01"), "fewest() of one", BarBehind::fewest, 1, 1);
        s.told(Way.piece("q2u11u22"), "fewest() of two", BarBehind::fewest, 2, 3);
        // Of 0 and 1 one behind is HEARD on PLACE 1 alone, one ahead on 0; of 2 and 3 either on 3.
        s.told(Way.piece("q4u1188u2288u8888u8801"), "fewest() of three", BarBehind::fewest, 3, 11);
        s.told(FIVE.outs(1, 2).plays(5), "fewest() though both are OUT", BarBehind::fewest, 1, 2);
        s.says("35", "whichever one PLAYER alone is OUT by -1 or 1");
        // On PLACE 1 all are told who are OUT by 1, none who is by 2.
        s.told(Way.piece("q2u11u22u33"), "fewest() of those OUT by 1", BarBehind::fewest, 1, 2);
        s.refused(Way.piece("q3u018u018"), "fewest() of one never HEARD", BarBehind::fewest, Sentences.NONE);
        s.refused(Way.piece("q2u11l82"), "fewest() of one behind never HEARD", BarBehind::fewest, Sentences.NONE);
        // Of each of these PIECES just one is never HEARD: PLAYER 0 by -1, by 1, PLAYER 1 by -1, ..
        String[] unheard = {
            "q2c00u01u01", "q2b01u08u18", "q2u18c11c01", "q2u10u80u18",
            "q3c880u801b118b101", "q3u088u111u180b188", "q3u811c808b801u101", "q3u008u801u008c081",
            "q3b111u801u101c081", "q3u811c008b188c808",
            "q4u8811u8108b1818c1100", "q4b0110c0180u0808u0800", "q4c1800u1808c1111b1108", "q4b8100u0118b1188b0810",
            "q4u8818c0111b8010b8011", "q4u8088c0101u8000b1080", "q4b8108u8818u8811u1001", "q4u0080u0118u0088u1088"};
        for (String signs : unheard) {
            s.refused(Way.piece(signs), "fewest() of " + signs, BarBehind::fewest, Sentences.NONE);
        }
        s.says("35", "NONE: no three.");
        s.refused(Way.piece("q4u1188u2288u8888u8811u8822"), "fewest() of four", BarBehind::fewest, Sentences.NONE);
        s.refused(FOURTEEN, "fewest() of LONG ones", BarBehind::fewest, Sentences.NONE);
        s.refused(Way.piece("q2l01"), "fewest() of one LONG", BarBehind::fewest, Sentences.NONE);
        s.says("35", "STATE: no PLACES.");
        s.refused(Way.NEW, "fewest()", BarBehind::fewest, Sentences.STATE);
    }

    private static void fewestLeast(Sentences s) {
        s.says("35", "which (bits; the least) by asked().");
        s.told(FIVE, "fewest() of 1, 2 or 3", BarBehind::fewest, 1, 2);
        // One behind is HEARD on PLACE 0 alone, one ahead on PLACE 13 alone.
        s.told(Way.piece("q2" + "u01".repeat(14)), "fewest() of the first and the last", BarBehind::fewest, 2, 8193);
        // PLACES 1 and 2 (6) or 0 and 3 (9), not 0 and 1, nor 0 and 2.
        s.told(Way.piece("q2u10u22u08u21"), "fewest() of two sets", BarBehind::fewest, 2, 6);
        // PLACES 1, 2 and 3 (14) or 0, 1 and 4 (19), besides others.
        s.told(Way.piece("q3c020u218u010b010b182"), "fewest() of more sets", BarBehind::fewest, 3, 14);
        s.told(Way.piece("q2" + "l88".repeat(12) + "u11u22"), "fewest() of the last two", BarBehind::fewest, 2,
                3 << 12);
        s.told(Way.piece("q2" + "l88".repeat(13) + "u01"), "fewest() of the last", BarBehind::fewest, 1, 1 << 13);
    }

    private static void modern(Sentences s) {
        s.says("36", "PLACES (bits) that are modern: on which it CLASHES though nobody is OUT");
        s.due(Way.piece("q2u00u01b06l01c06c01"), "modern()", BarBehind::modern, 2 + 4 + 32);
        s.due(Way.piece("q2" + "b01".repeat(14)), "modern() of fourteen", BarBehind::modern, 16383);
        s.due(FOURTEEN, "modern() of none", BarBehind::modern, 0);
        s.due(FIVE.outs(1), "modern() though one is OUT", BarBehind::modern, 0);
        s.due(Way.piece("q2u01").outs(1).plays(1), "modern() when OVER", BarBehind::modern, 1);
        s.due(Way.NEW, "modern() without PLACES", BarBehind::modern, 0);
        s.says("36", "on how many of these no PAIR would CLASH if PLAYER 0 were a bar behind by asked().");
        s.told(Way.piece("q2u01"), "modern() of one", BarBehind::modern, 1, 1);
        s.told(Way.piece("q2u01u01"), "modern() of two", BarBehind::modern, 3, 1);
        s.told(Way.piece("q2u00u10"), "modern() of one that is quiet then", BarBehind::modern, 2, 1);
        s.told(Way.piece("q2u00u11"), "modern() of none", BarBehind::modern, 0, 0);
        // PLAYERS 1 and 2 go on to CLASH.
        s.told(Way.piece("q3u012"), "modern() of three", BarBehind::modern, 1, 0);
        s.told(Way.piece("q3u011"), "modern() of three", BarBehind::modern, 1, 1);
        // With PLAYER 1 behind, or PLAYER 0 ahead, both would be quiet.
        s.told(Way.piece("q2u88u01u12"), "modern() of PLAYER 0 alone", BarBehind::modern, 6, 1);
        s.told(Way.piece("q2u01u12u23").outs(0, 1), "modern() though one is OUT", BarBehind::modern, 7, 1);
        s.told(Way.piece("q2" + "u01l88".repeat(7)), "modern() of seven", BarBehind::modern, 0x1555, 7);
        s.told(x -> {
            x.row(0, 1);
            x.lay(0, 0, 5);
            x.at(0, 0);
        }, "modern() without PLACES", BarBehind::modern, 0, 0);
    }
}
