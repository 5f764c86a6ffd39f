/** Promises 40, 41 and 43, sentence by sentence, at their edges. */
final class EdgesOfStopping {
    /** PLAYER 0, a bar ahead, CLASHES with PLAYER 1 on PLACES 1, 2 and 3. */
    private static final Way FIVE = Way.piece("q2 b00 u00 u11 g22 u33").outs(1);
    private static final Way BARS = Way.piece("q2" + "b00".repeat(14));
    private static final Way TIED = Way.piece("q2" + "t00".repeat(14));

    private EdgesOfStopping() {
    }

    static void hold(Sentences s) {
        goOn(s);
        goOnTill(s);
        stop(s);
        letter(s);
        letterRefused(s);
        lots(s);
        lotsNumbers(s);
        lotsSlips(s);
        lotsEnd(s);
        lotsRefused(s);
    }

    private static void goOn(Sentences s) {
        s.says("40", "how many PAIRS CLASH on the PLACES");
        s.due(Way.piece("q4u0000u1111").outs(1), "line() of three PAIRS", BarBehind::line, 3);
        s.due(Way.piece("q4u0000u1111").outs(1, 1), "line() of four PAIRS", BarBehind::line, 4);
        s.due(FIVE.plays(5).then(x -> x.anew(0)), "line() with nobody OUT", BarBehind::line, 0);
        s.says("40", "more than if nobody were OUT");
        s.due(Way.piece("q2u01u01"), "line() with nobody OUT", BarBehind::line, 0);
        s.due(Way.piece("q3u001u100").outs(1), "line() of as many, then two fewer", BarBehind::line, 0);
        s.due(Way.piece("q3b017u555").outs(0, 0, -1).plays(1), "line() of two PAIRS more", BarBehind::line, 2);
        s.says("40", "(below 0: 0)");
        s.due(Way.piece("q2u01u12").outs(1), "line() of two fewer", BarBehind::line, 0);
        s.due(Way.piece("q2u01").outs(1), "line() of one fewer", BarBehind::line, 0);
        s.due(Way.piece("q2u01u11l82").outs(1), "line() of one fewer and none more", BarBehind::line, 0);
        // What is fewer on one PLACE makes up for what is more on another.
        s.due(Way.piece("q2u01u11u22").outs(1), "line() of one fewer and one more", BarBehind::line, 0);
        s.due(Way.piece("q2u01u11u22u33").outs(1), "line() of one fewer and two more", BarBehind::line, 1);
    }

    private static void goOnTill(Sentences s) {
        s.says("40", "To go on as they are OUT to the next LETTER ahead (or the end)");
        s.due(FIVE, "line() to the LETTER", BarBehind::line, 2);
        s.due(FIVE.plays(4), "line() to the end, of one who is silent", BarBehind::line, 0);
        s.due(Way.piece("q2u00u11u22u33").outs(1), "line() to the end", BarBehind::line, 3);
        s.due(Way.piece("q2" + "u00u11".repeat(7)).outs(1), "line() of fourteen", BarBehind::line, 13);
        s.due(Way.piece("q2u00u11g22u33g44u55").outs(1), "line() to the first of two", BarBehind::line, 2);
        s.says("40", "from this one on till then (that one not)");
        s.due(FIVE.plays(1), "line() from PLACE 1", BarBehind::line, 2);
        s.due(FIVE.plays(2), "line() from PLACE 2, the last ahead of the LETTER", BarBehind::line, 1);
        s.due(FIVE.plays(3), "line() from the LETTER itself", BarBehind::line, 1);
        s.due(Way.piece("q2g00g11g22u33").outs(1), "line() from a LETTER to the one next to it", BarBehind::line, 1);
        s.due(Way.piece("q2g00g11g22u33").outs(1).plays(2), "line() from the last LETTER", BarBehind::line, 1);
    }

    private static void stop(Sentences s) {
        s.says("40", "to stop: how many PLACES it is from the last LETTER");
        s.told(FIVE.plays(4), "line() behind the LETTER", BarBehind::line, 0, 1);
        Way far = Way.piece("q2g00" + "b00".repeat(13));
        for (int n = 1; n < 14; n++) s.told(far.plays(n), "line() at PLACE " + n, BarBehind::line, 0, n);
        s.told(Way.piece("q2g00b00g00b00b00").plays(4), "line() behind two LETTERS", BarBehind::line, 0, 2);
        s.told(Way.piece("q2g00b00g00b00b00").plays(1), "line() between two LETTERS", BarBehind::line, 0, 1);
        for (int at = 1; at < 13; at++) {
            Way one = Way.piece("q2" + "b00".repeat(at) + "g00" + "b00".repeat(13 - at));
            s.told(one.plays(13), "line() behind a LETTER on PLACE " + at, BarBehind::line, 0, 13 - at);
        }
        s.says("40", "(here, too");
        s.told(FIVE.plays(3), "line() on the LETTER", BarBehind::line, 1, 0);
        s.told(far, "line() on the LETTER", BarBehind::line, 0, 0);
        s.told(Way.piece("q2g00b00g00").plays(2), "line() on the second LETTER", BarBehind::line, 0, 0);
        s.says("40", "or PLACE 0) to this one, by asked().");
        s.told(FIVE, "line() on PLACE 0", BarBehind::line, 2, 0);
        s.told(FIVE.plays(2), "line() ahead of the LETTER", BarBehind::line, 1, 2);
        s.told(BARS.plays(13), "line() on PLACE 13", BarBehind::line, 0, 13);
        s.says("40", "STATE: OVER, or no PLACES.");
        s.refused(FIVE.plays(5), "line() when OVER", BarBehind::line, Sentences.STATE);
        s.refused(BARS.plays(14), "line() when OVER", BarBehind::line, Sentences.STATE);
        s.refused(Way.NEW, "line() without PLACES", BarBehind::line, Sentences.STATE);
    }

    private static void letter(Sentences s) {
        s.says("41", "The LETTER from which anew least is played twice or left out from here (the first");
        Way six = Way.piece("q2 g00 b00 g00 b00 b00 g00");
        int[] nearest = {0, 0, 1, 1, 2, 2, 2};
        for (int n = 0; n <= 6; n++) s.due(six.plays(n), "letter() at " + n, BarBehind::letter, nearest[n]);
        s.due(Way.piece("q2" + "g00".repeat(14)).plays(13), "letter() of fourteen", BarBehind::letter, 13);
        s.due(Way.piece("q2" + "g00".repeat(14)).plays(14), "letter() when OVER", BarBehind::letter, 13);
        s.says("41", "as many PLACES as it is from here, either way)");
        s.told(Way.piece("q2b00b00b00g00"), "letter() three ahead", BarBehind::letter, 0, 3);
        s.told(Way.piece("q2g00b00b00b00").plays(3), "letter() three behind", BarBehind::letter, 0, 3);
        s.told(Way.piece("q2g00b00b00b00g00").plays(3), "letter() one ahead, three behind", BarBehind::letter, 1, 1);
        s.told(Way.piece("q2g00b00b00b00g00").plays(1), "letter() one behind, three ahead", BarBehind::letter, 0, 1);
        s.told(six.outs(2, 2), "letter() though both are OUT", BarBehind::letter, 0, 0);
        s.says("41", "how many by asked().");
        int[] many = {0, 1, 0, 1, 1, 0, 1};
        for (int n = 0; n <= 6; n++) s.told(six.plays(n), "letter() at " + n, BarBehind::letter, nearest[n], many[n]);
        Way far = Way.piece("q2g00" + "b00".repeat(13));
        s.told(far.plays(13), "letter() on the last PLACE", BarBehind::letter, 0, 13);
        s.told(far.plays(14), "letter() when OVER", BarBehind::letter, 0, 14);
        s.told(Way.piece("q2" + "b00".repeat(13) + "g00"), "letter() at the end", BarBehind::letter, 0, 13);
    }

    private static void letterRefused(Sentences s) {
        s.says("41", "NONE: no LETTERS.");
        s.refused(BARS.plays(3), "letter()", BarBehind::letter, Sentences.NONE);
        s.refused(BARS.plays(14), "letter() when OVER", BarBehind::letter, Sentences.NONE);
        s.refused(Way.piece("q2u00l00t00c00"), "letter()", BarBehind::letter, Sentences.NONE);
        s.says("41", "STATE: no PLACES.");
        s.refused(Way.NEW, "letter()", BarBehind::letter, Sentences.STATE);
    }

    private static void lots(Sentences s) {
        s.says("43", "n (1 .. 20) PLACES PLAYED truly");
        // From seed 6 no slip comes for two PLACES.
        for (int n = 1; n <= 4; n++) {
            int many = n;
            s.due(BARS, "lots(" + n + ", 6)", x -> x.lots(many, 6), n);
            s.due(BARS.then(x -> x.lots(many, 6)), "here() behind lots(" + n + ", 6)", BarBehind::here, n);
        }
        s.due(Way.piece("q2u01b06").then(x -> x.lots(2, 6)), "what was HEARD", x -> {
            x.heard(0);
            x.at(0, 0);
            int first = x.asked();
            x.at(0, 1);
            return 10 * first + x.asked();
        }, 11);
        s.due(BARS, "lots(20, 1)", x -> x.lots(20, 1), 14);
        s.says("43", "how many were PLAYED.");
        s.due(BARS, "lots(1, 2) with a slip", x -> x.lots(1, 2), 1);
        s.due(BARS.then(x -> x.lots(1, 2)), "count(2) behind it", x -> x.count(2), 2);
        s.due(BARS.then(x -> x.lots(1, 6)), "count(2) without a slip", x -> x.count(2), 1);
        s.alike("lots(1, 2) is a slip and a PLACE",
                BARS.then(x -> x.lots(1, 2)), BARS.then(x -> x.slip(0, -1)).plays(1));
    }

    /** By the first number of a seed just one is OUT behind it. */
    private static void firstSlip(Sentences s, Way way, int seed, int p, int out) {
        s.due(way.then(x -> x.lots(1, seed)), "count(3) behind lots(1, " + seed + ")", x -> x.count(3), 1);
        s.due(way.then(x -> x.lots(1, seed)), "out(" + p + ") behind lots(1, " + seed + ")", x -> x.out(p), out);
    }

    private static void noSlip(Sentences s, Way way, int seed) {
        s.due(way.then(x -> x.lots(1, seed)), "count(2) behind lots(1, " + seed + ")", x -> x.count(2), 1);
    }

    private static void lotsNumbers(Sentences s) {
        s.says("43", "ahead of each a number comes from the one ahead by 48271 times it modulo 2147483647");
        // From seed 8 come 386168, 1460846352, 1741224500, 285379567: none, 0 by 1, 0 by -1, none.
        int[] outs = {2, 3, 2, 2};
        int[] deeds = {1, 3, 5, 6};
        for (int n = 1; n <= 4; n++) {
            int many = n;
            s.due(BARS.then(x -> x.lots(many, 8)), "out(0) behind lots(" + n + ", 8)", x -> x.out(0), outs[n - 1]);
            s.due(BARS.then(x -> x.lots(many, 8)), "count(2) behind lots(" + n + ", 8)", x -> x.count(2), deeds[n - 1]);
        }
        s.alike("lots(2, 8) are lots(1, 8) and lots(1, 386168)", BARS.then(x -> x.lots(2, 8)),
                BARS.then(x -> x.lots(1, 8)).then(x -> x.lots(1, 386168)));
        s.says("43", "the first from the seed (1 .. 2147483646)");
        // From 1 comes 48271, from 2147483646 comes 2147435376.
        firstSlip(s, TIED, 1, 1, 3);
        noSlip(s, BARS, 1);
        noSlip(s, TIED, 2147483646);
        s.due(BARS, "lots(1, 2147483646)", x -> x.lots(1, 2147483646), 1);
        s.due(BARS.then(x -> x.lots(1, 8)).then(x -> x.lots(1, 8)), "count(2) of the same seed twice", x -> x.count(2), 2);
    }

    private static void lotsSlips(Sentences s) {
        s.says("43", "if it by 64, cut, modulo 4 is 0 (on a TIED: modulo 2)");
        // 96542 by 64 is 1508, 48271: 754, 241355: 3771, 289626: 4525.
        firstSlip(s, BARS, 2, 0, 1);
        firstSlip(s, TIED, 2, 0, 1);
        noSlip(s, BARS, 1);
        firstSlip(s, TIED, 1, 1, 3);
        for (int seed : new int[] {5, 6}) {
            noSlip(s, BARS, seed);
            noSlip(s, TIED, seed);
        }
        for (char letter : "bulgc".toCharArray()) {
            noSlip(s, Way.piece("q2" + letter + "00t00"), 1);
            firstSlip(s, Way.piece("q2" + letter + "00t00"), 2, 0, 1);
        }
        firstSlip(s, Way.piece("q2b00t00").plays(1), 1, 1, 3);
        s.says("43", "the PLAYER at it modulo how many there are slips");
        firstSlip(s, Way.piece("q2b00"), 9, 1, 1);
        firstSlip(s, Way.piece("q3b000"), 9, 0, 1);
        firstSlip(s, Way.piece("q3b000"), 4, 1, 1);
        firstSlip(s, Way.piece("q3b000"), 2, 2, 1);
        firstSlip(s, Way.piece("q4b0000"), 4, 0, 1);
        firstSlip(s, Way.piece("q4b0000"), 27, 1, 1);
        firstSlip(s, Way.piece("q4b0000"), 2, 2, 1);
        firstSlip(s, Way.piece("q4b0000"), 9, 3, 1);
        s.says("43", "by 1, if it by 1024, cut, is odd, else by -1");
        // 96542 by 1024 is 94, 434439: 424, 1737756: 1697, 1399859: 1367.
        firstSlip(s, BARS, 2, 0, 1);
        firstSlip(s, BARS, 9, 1, 1);
        firstSlip(s, BARS, 36, 0, 3);
        firstSlip(s, BARS, 29, 1, 3);
        s.says("43", "if that one can (2 at most either way");
        // PLAYER 0 slips by 1 from seed 36, by -1 from seed 2.
        firstSlip(s, BARS.outs(1), 36, 0, 4);
        firstSlip(s, BARS.outs(-1), 2, 0, 0);
        s.due(BARS.outs(2), "lots(1, 36) of one who can't", x -> x.lots(1, 36), 1);
        s.alike("lots(1, 36) of one who can't", BARS.outs(2).then(x -> x.lots(1, 36)), BARS.outs(2).plays(1));
        s.due(BARS.outs(-2), "lots(1, 2) of one who can't", x -> x.lots(1, 2), 1);
        s.alike("lots(1, 2) of one who can't", BARS.outs(-2).then(x -> x.lots(1, 2)), BARS.outs(-2).plays(1));
    }

    private static void lotsEnd(Sentences s) {
        s.says("43", "a DEED)");
        s.due(BARS.then(x -> x.lots(1, 2)), "undo(0)", x -> x.undo(0), 2);
        s.alike("undo(1) behind lots(1, 2)", BARS.then(x -> x.lots(1, 2)).then(x -> x.undo(1)),
                BARS.then(x -> x.slip(0, -1)));
        s.says("43", "till it is OVER, or 40 DEEDS are done");
        s.due(BARS.plays(13), "lots(2, 6) from the last PLACE", x -> x.lots(2, 6), 1);
        s.due(BARS.plays(13).then(x -> x.lots(2, 6)), "here()", BarBehind::here, 14);
        s.due(BARS.plays(11), "lots(3, 6) just to the end", x -> x.lots(3, 6), 3);
        s.due(BARS, "lots(15, 6)", x -> x.lots(15, 6), 14);
        s.due(BARS.idle(39), "lots(2, 6) as the fortieth", x -> x.lots(2, 6), 1);
        s.due(BARS.idle(39).then(x -> x.lots(2, 6)), "count(2)", x -> x.count(2), 40);
        s.due(BARS.idle(38), "lots(2, 6) as the last two", x -> x.lots(2, 6), 2);
        s.refused(BARS.idle(40), "lots(1, 6) behind forty", x -> x.lots(1, 6), 0);
        s.refused(BARS.idle(40), "lots(20, 2) behind forty", x -> x.lots(20, 2), 0);
        s.says("43", "(a slip, too, may be the last)");
        s.due(BARS.idle(39), "lots(1, 2) with a slip as the fortieth", x -> x.lots(1, 2), 0);
        s.alike("lots(1, 2) with a slip as the fortieth", BARS.idle(39).then(x -> x.lots(1, 2)),
                BARS.idle(39).then(x -> x.slip(0, -1)));
        s.due(BARS.idle(38), "lots(2, 2) with a slip and a PLACE as the last", x -> x.lots(2, 2), 1);
        s.alike("lots(3, 8) with a slip as the fortieth", BARS.idle(38).then(x -> x.lots(3, 8)),
                BARS.idle(38).plays(1).then(x -> x.slip(0, 1)));
    }

    private static void lotsRefused(Sentences s) {
        Way played = BARS.plays(2);
        s.says("43", "BAD");
        for (int n : new int[] {0, -1, 21, Sentences.LEAST, Sentences.MOST}) {
            s.refused(played, "lots(" + n + ", 1)", x -> x.lots(n, 1), Sentences.BAD);
            s.refused(Way.NEW, "lots(" + n + ", 1) without PLACES", x -> x.lots(n, 1), Sentences.BAD);
            s.refused(BARS.plays(14), "lots(" + n + ", 1) when OVER", x -> x.lots(n, 1), Sentences.BAD);
        }
        for (int seed : new int[] {0, -1, Sentences.LEAST, Sentences.MOST}) {
            s.refused(played, "lots(1, " + seed + ")", x -> x.lots(1, seed), Sentences.BAD);
            s.refused(Way.NEW, "lots(1, " + seed + ") without PLACES", x -> x.lots(1, seed), Sentences.BAD);
        }
        s.refused(BARS.idle(40), "lots(0, 1) when FULL", x -> x.lots(0, 1), Sentences.BAD);
        s.says("43", "STATE: OVER, or no PLACES.");
        s.refused(BARS.plays(14), "lots(1, 1) when OVER", x -> x.lots(1, 1), Sentences.STATE);
        s.refused(Way.piece("q2b00").plays(1).idle(39), "lots(1, 1) when OVER and 40 DEEDS", x -> x.lots(1, 1),
                Sentences.STATE);
        s.refused(Way.NEW, "lots(1, 1) without PLACES", x -> x.lots(1, 1), Sentences.STATE);
        s.due(BARS.plays(13), "lots(1, 6) on the last PLACE", x -> x.lots(1, 6), 1);
    }
}
