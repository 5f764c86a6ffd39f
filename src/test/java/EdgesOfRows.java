/** Promises 1 to 7, sentence by sentence, at their edges. */
final class EdgesOfRows {
    private static final int[] NO_ROWS = {-1, 6, Sentences.LEAST, Sentences.MOST};

    /** ROW 0 of 1, 2, 3, 4, 5; ROW 1 of 11, 12, 13; ROW 2 of none; ROWS 3 to 5 are missing. */
    private static final Way THREE = ((Way) x -> x.row(0, 5)).then(x -> x.row(1, 3)).then(x -> x.row(2, 0))
            .then(x -> {
                for (int i = 0; i < 5; i++) x.lay(0, i, i + 1);
                for (int i = 0; i < 3; i++) x.lay(1, i, i + 11);
            });

    private static final Way LONGEST = x -> {
        x.row(5, 40);
        for (int i = 0; i < 40; i++) x.lay(5, i, 100 + i);
    };

    private EdgesOfRows() {
    }

    static void hold(Sentences s) {
        newObject(s);
        row(s);
        lay(s);
        at(s);
        tear(s);
        copy(s);
        copyRefused(s);
        mean(s);
    }

    private static void newObject(Sentences s) {
        s.says("1", "No ROWS, TEXTS, PLAYERS, PLACES.");
        for (int what = 0; what <= 8; what++) {
            int of = what;
            s.due(Way.NEW, "count(" + what + ")", x -> x.count(of), 0);
        }
        for (int k = 0; k < 6; k++) {
            int r = k;
            s.found(Way.NEW, "tear(" + k + ")", x -> x.tear(r), Sentences.NOTHING);
        }
        for (int k = 0; k < 4; k++) {
            int t = k;
            s.found(Way.NEW, "put(" + k + ", 0, 1)", x -> x.put(t, 0, 1), Sentences.NOTHING);
        }
        s.refused(Way.NEW, "out(0)", x -> x.out(0), Sentences.BAD);
        s.refused(Way.NEW, "place(0, 0)", x -> x.place(0, 0), Sentences.BAD);
    }

    private static void row(Sentences s) {
        s.says("2", "A ROW is there with n ints 0: n.");
        for (int k = 0; k < 6; k++) {
            int r = k;
            s.due(Way.NEW, "row(" + k + ", 1)", x -> x.row(r, 1), 1);
            s.tells(((Way) x -> x.row(r, 1)), "at(" + k + ", 0)", x -> x.at(r, 0), 0);
        }
        s.due(Way.NEW, "row(0, 0)", x -> x.row(0, 0), 0);
        s.due(x -> x.row(0, 0), "count(6) with a ROW of none", x -> x.count(6), 1);
        s.found(x -> x.row(0, 0), "at(0, 0) of none", x -> x.at(0, 0), Sentences.BEYOND);
        s.due(Way.NEW, "row(3, 40)", x -> x.row(3, 40), 40);
        s.tells(x -> x.row(3, 40), "at(3, 39)", x -> x.at(3, 39), 0);
        s.found(x -> x.row(3, 40), "at(3, 40)", x -> x.at(3, 40), Sentences.BEYOND);
        for (int i = 0; i < 40; i++) {
            int at = i;
            s.tells(LONGEST.then(x -> x.row(5, 40)), "at(5, " + i + ") of a ROW made anew", x -> x.at(5, at), 0);
        }
        s.tells(LONGEST.then(x -> x.row(5, 3)).then(x -> x.row(5, 40)), "at(5, 3) of a ROW that was cut",
                x -> x.at(5, 3), 0);
        s.found(LONGEST.then(x -> x.row(5, 3)), "at(5, 3) of a ROW made shorter", x -> x.at(5, 3), Sentences.BEYOND);
        s.says("2", "BAD");
        for (int r : NO_ROWS) s.refused(THREE, "row(" + r + ", 1)", x -> x.row(r, 1), Sentences.BAD);
        s.says("2", "also n above 40");
        s.refused(THREE, "row(0, 41)", x -> x.row(0, 41), Sentences.BAD);
        s.refused(THREE, "row(3, 41)", x -> x.row(3, 41), Sentences.BAD);
        s.refused(THREE, "row(0, most)", x -> x.row(0, Sentences.MOST), Sentences.BAD);
        s.says("2", "SIZE: below 0.");
        s.found(THREE, "row(0, -1)", x -> x.row(0, -1), Sentences.SIZE);
        s.found(THREE, "row(3, -1)", x -> x.row(3, -1), Sentences.SIZE);
        s.found(THREE, "row(5, least)", x -> x.row(5, Sentences.LEAST), Sentences.SIZE);
    }

    private static void lay(Sentences s) {
        s.says("3", "Place i of a ROW is v: what it was, told by asked(): 1.");
        s.tells(THREE, "lay(0, 0, 9)", x -> x.lay(0, 0, 9), 1);
        s.tells(THREE, "lay(0, 4, 9)", x -> x.lay(0, 4, 9), 5);
        s.tells(LONGEST, "lay(5, 39, 9)", x -> x.lay(5, 39, 9), 139);
        for (int v : new int[] {0, -1, Sentences.LEAST, Sentences.MOST}) {
            Way laid = THREE.then(x -> x.lay(0, 4, v));
            s.tells(laid, "at(0, 4) behind lay(0, 4, " + v + ")", x -> x.at(0, 4), v);
            s.tells(laid, "lay(0, 4, 7) behind lay(0, 4, " + v + ")", x -> x.lay(0, 4, 7), v);
            s.tells(laid, "at(0, 3) behind lay(0, 4, " + v + ")", x -> x.at(0, 3), 4);
            s.tells(laid, "at(1, 2) behind lay(0, 4, " + v + ")", x -> x.at(1, 2), 13);
        }
        s.says("3", "BAD");
        for (int r : NO_ROWS) s.refused(THREE, "lay(" + r + ", 0, 1)", x -> x.lay(r, 0, 1), Sentences.BAD);
        s.says("3", "NOTHING");
        s.found(THREE, "lay(3, 0, 1)", x -> x.lay(3, 0, 1), Sentences.NOTHING);
        s.found(THREE, "lay(5, -1, 1)", x -> x.lay(5, -1, 1), Sentences.NOTHING);
        s.found(THREE.then(x -> x.tear(0)), "lay(0, 0, 1) of a torn ROW", x -> x.lay(0, 0, 1), Sentences.NOTHING);
        s.says("3", "BEYOND");
        for (int i : new int[] {-1, 5, 40, Sentences.LEAST, Sentences.MOST}) {
            s.found(THREE, "lay(0, " + i + ", 1)", x -> x.lay(0, i, 1), Sentences.BEYOND);
        }
        s.found(THREE, "lay(2, 0, 1) of none", x -> x.lay(2, 0, 1), Sentences.BEYOND);
        s.found(LONGEST, "lay(5, 40, 1)", x -> x.lay(5, 40, 1), Sentences.BEYOND);
    }

    private static void at(Sentences s) {
        s.says("4", "Place i of a ROW, told by asked(): 1.");
        s.tells(THREE, "at(0, 0)", x -> x.at(0, 0), 1);
        s.tells(THREE, "at(0, 4)", x -> x.at(0, 4), 5);
        s.tells(LONGEST, "at(5, 39)", x -> x.at(5, 39), 139);
        s.says("4", "BAD");
        for (int r : NO_ROWS) s.refused(THREE, "at(" + r + ", 0)", x -> x.at(r, 0), Sentences.BAD);
        s.says("4", "NOTHING");
        s.found(THREE, "at(3, 0)", x -> x.at(3, 0), Sentences.NOTHING);
        s.found(THREE, "at(5, -1)", x -> x.at(5, -1), Sentences.NOTHING);
        s.found(THREE.then(x -> x.tear(0)), "at(0, 0) of a torn ROW", x -> x.at(0, 0), Sentences.NOTHING);
        s.says("4", "BEYOND");
        for (int i : new int[] {-1, 5, 40, Sentences.LEAST, Sentences.MOST}) {
            s.found(THREE, "at(0, " + i + ")", x -> x.at(0, i), Sentences.BEYOND);
        }
        s.found(THREE, "at(2, 0) of none", x -> x.at(2, 0), Sentences.BEYOND);
        s.found(LONGEST, "at(5, 40)", x -> x.at(5, 40), Sentences.BEYOND);
    }

    private static void tear(Sentences s) {
        s.says("5", "A ROW is missing: 1.");
        s.due(THREE, "tear(0)", x -> x.tear(0), 1);
        s.due(THREE, "tear(2) of none", x -> x.tear(2), 1);
        s.due(LONGEST, "tear(5)", x -> x.tear(5), 1);
        s.due(THREE.then(x -> x.tear(0)), "count(6)", x -> x.count(6), 2);
        s.tells(THREE.then(x -> x.tear(0)), "at(1, 2) of another ROW", x -> x.at(1, 2), 13);
        s.tells(THREE.then(x -> x.tear(0)).then(x -> x.row(0, 5)), "at(0, 4) made again", x -> x.at(0, 4), 0);
        s.says("5", "BAD");
        for (int r : NO_ROWS) s.refused(THREE, "tear(" + r + ")", x -> x.tear(r), Sentences.BAD);
        s.says("5", "NOTHING");
        for (int r : new int[] {3, 4, 5}) s.found(THREE, "tear(" + r + ")", x -> x.tear(r), Sentences.NOTHING);
        s.found(THREE.then(x -> x.tear(0)), "tear(0) again", x -> x.tear(0), Sentences.NOTHING);
    }

    private static void rowIs(Sentences s, Way way, String what, int r, int... want) {
        s.found(way, what + ": its size", x -> x.at(r, want.length), Sentences.BEYOND);
        for (int i = 0; i < want.length; i++) {
            int at = i;
            s.tells(way, what + ": at(" + r + ", " + i + ")", x -> x.at(r, at), want[i]);
        }
    }

    private static void copy(Sentences s) {
        s.says("6", "n places of a ROW, from one on, come to those of another one");
        s.due(THREE, "copy(0, 1, 1, 1, 2)", x -> x.copy(0, 1, 1, 1, 2), 1);
        Way copied = THREE.then(x -> x.copy(0, 1, 1, 1, 2));
        rowIs(s, copied, "the ROW to which it came", 1, 11, 2, 3);
        rowIs(s, copied, "the ROW from which it came", 0, 1, 2, 3, 4, 5);
        rowIs(s, THREE.then(x -> x.copy(1, 0, 0, 2, 3)), "the last places", 0, 1, 2, 11, 12, 13);
        s.due(THREE, "copy(0, 2, 1, 0, 0) of none", x -> x.copy(0, 2, 1, 0, 0), 1);
        s.alike("copy() of none", THREE.then(x -> x.copy(0, 2, 1, 0, 0)), THREE);
        Way long40 = LONGEST.then(x -> x.row(4, 40)).then(x -> x.copy(5, 0, 4, 0, 40));
        s.tells(long40, "at(4, 0) of all forty", x -> x.at(4, 0), 100);
        s.tells(long40, "at(4, 39) of all forty", x -> x.at(4, 39), 139);
        s.says("6", "(perhaps itself)");
        s.due(THREE, "copy(0, 0, 0, 3, 2)", x -> x.copy(0, 0, 0, 3, 2), 1);
        rowIs(s, THREE.then(x -> x.copy(0, 0, 0, 3, 2)), "from itself", 0, 1, 2, 3, 1, 2);
        rowIs(s, THREE.then(x -> x.copy(0, 0, 0, 0, 5)), "from itself to the same places", 0, 1, 2, 3, 4, 5);
        s.says("6", "as if taken ahead: 1.");
        rowIs(s, THREE.then(x -> x.copy(0, 0, 0, 1, 4)), "a place further on", 0, 1, 1, 2, 3, 4);
        rowIs(s, THREE.then(x -> x.copy(0, 1, 0, 0, 4)), "a place back", 0, 2, 3, 4, 5, 5);
        rowIs(s, THREE.then(x -> x.copy(0, 0, 0, 2, 3)), "two places further on", 0, 1, 2, 1, 2, 3);
    }

    private static void copyRefused(Sentences s) {
        s.says("6", "BAD");
        for (int r : NO_ROWS) {
            s.refused(THREE, "copy(" + r + ", 0, 0, 0, 1)", x -> x.copy(r, 0, 0, 0, 1), Sentences.BAD);
            s.refused(THREE, "copy(0, 0, " + r + ", 0, 1)", x -> x.copy(0, 0, r, 0, 1), Sentences.BAD);
        }
        s.says("6", "SIZE: n below 0");
        s.found(THREE, "copy(0, 0, 1, 0, -1)", x -> x.copy(0, 0, 1, 0, -1), Sentences.SIZE);
        s.found(THREE, "copy(0, 0, 1, 0, least)", x -> x.copy(0, 0, 1, 0, Sentences.LEAST), Sentences.SIZE);
        s.found(THREE, "copy(0, 5, 1, 3, -1) within all the same", x -> x.copy(0, 5, 1, 3, -1), Sentences.SIZE);
        s.found(THREE, "copy(3, 0, 4, 0, -1) of missing ones", x -> x.copy(3, 0, 4, 0, -1), Sentences.SIZE);
        s.says("6", "NOTHING: either");
        s.found(THREE, "copy(3, 0, 0, 0, 1)", x -> x.copy(3, 0, 0, 0, 1), Sentences.NOTHING);
        s.found(THREE, "copy(0, 0, 3, 0, 1)", x -> x.copy(0, 0, 3, 0, 1), Sentences.NOTHING);
        s.found(THREE, "copy(3, 0, 0, 0, 0) of none", x -> x.copy(3, 0, 0, 0, 0), Sentences.NOTHING);
        s.found(THREE, "copy(0, 0, 5, 0, 0) of none", x -> x.copy(0, 0, 5, 0, 0), Sentences.NOTHING);
        s.found(THREE, "copy(4, 0, 4, 0, 0)", x -> x.copy(4, 0, 4, 0, 0), Sentences.NOTHING);
        s.found(THREE, "copy(0, 6, 3, 0, 1), beyond, too", x -> x.copy(0, 6, 3, 0, 1), Sentences.NOTHING);
        s.says("6", "BEYOND: not so many there");
        s.due(THREE, "copy(0, 3, 1, 0, 2) to the end of the one", x -> x.copy(0, 3, 1, 0, 2), 1);
        s.found(THREE, "copy(0, 4, 1, 0, 2)", x -> x.copy(0, 4, 1, 0, 2), Sentences.BEYOND);
        s.due(THREE, "copy(0, 0, 1, 1, 2) to the end of the other", x -> x.copy(0, 0, 1, 1, 2), 1);
        s.found(THREE, "copy(0, 0, 1, 2, 2)", x -> x.copy(0, 0, 1, 2, 2), Sentences.BEYOND);
        s.found(THREE, "copy(0, -1, 1, 0, 1)", x -> x.copy(0, -1, 1, 0, 1), Sentences.BEYOND);
        s.found(THREE, "copy(0, 0, 1, -1, 1)", x -> x.copy(0, 0, 1, -1, 1), Sentences.BEYOND);
        s.found(THREE, "copy(0, 0, 2, 0, 1)", x -> x.copy(0, 0, 2, 0, 1), Sentences.BEYOND);
        s.found(THREE, "copy(0, 0, 0, 0, 6)", x -> x.copy(0, 0, 0, 0, 6), Sentences.BEYOND);
        s.found(LONGEST, "copy(5, 0, 5, 0, 41)", x -> x.copy(5, 0, 5, 0, 41), Sentences.BEYOND);
        s.found(THREE, "copy(0, most, 1, 0, 1)", x -> x.copy(0, Sentences.MOST, 1, 0, 1), Sentences.BEYOND);
        s.found(THREE, "copy(0, 0, 1, most, 1)", x -> x.copy(0, 0, 1, Sentences.MOST, 1), Sentences.BEYOND);
        s.found(THREE, "copy(0, 1, 1, 1, most)", x -> x.copy(0, 1, 1, 1, Sentences.MOST), Sentences.BEYOND);
        s.found(THREE, "copy(0, least, 1, 0, 1)", x -> x.copy(0, Sentences.LEAST, 1, 0, 1), Sentences.BEYOND);
    }

    private static Way rowOf(int... values) {
        return x -> {
            x.row(1, values.length);
            for (int i = 0; i < values.length; i++) x.lay(1, i, values[i]);
        };
    }

    private static void mean(Sentences s) {
        int least = Sentences.LEAST, most = Sentences.MOST;
        s.says("7", "The mean of a ROW's ints, cut, told by asked(): 1.");
        s.tells(rowOf(7), "mean of 7", x -> x.mean(1), 7);
        s.tells(rowOf(1, 2), "mean of 1, 2", x -> x.mean(1), 1);
        s.tells(rowOf(1, 0), "mean of 1, 0", x -> x.mean(1), 0);
        s.tells(rowOf(-1, 0), "mean of -1, 0", x -> x.mean(1), 0);
        s.tells(rowOf(-1, -2), "mean of -1, -2", x -> x.mean(1), -1);
        s.tells(rowOf(2, 3, 3), "mean of 2, 3, 3", x -> x.mean(1), 2);
        s.tells(rowOf(least), "mean of the least", x -> x.mean(1), least);
        s.tells(rowOf(most, most, most), "mean of three greatest", x -> x.mean(1), most);
        s.tells(rowOf(least, least, least), "mean of three least", x -> x.mean(1), least);
        s.tells(rowOf(most, least), "mean of the greatest and the least", x -> x.mean(1), 0);
        s.tells(LONGEST, "mean of forty", x -> x.mean(5), 119);
        s.tells(x -> {
            x.row(5, 40);
            for (int i = 0; i < 40; i++) x.lay(5, i, most);
        }, "mean of forty greatest", x -> x.mean(5), most);
        s.says("7", "BAD");
        for (int r : NO_ROWS) s.refused(THREE, "mean(" + r + ")", x -> x.mean(r), Sentences.BAD);
        s.says("7", "NOTHING");
        s.found(THREE, "mean(3)", x -> x.mean(3), Sentences.NOTHING);
        s.found(THREE.then(x -> x.tear(2)), "mean(2) of a torn ROW", x -> x.mean(2), Sentences.NOTHING);
        s.says("7", "NOUGHT");
        s.found(THREE, "mean(2) of none", x -> x.mean(2), Sentences.NOUGHT);
        s.found(LONGEST.then(x -> x.row(5, 0)), "mean(5) of a ROW cut to none", x -> x.mean(5), Sentences.NOUGHT);
    }
}
