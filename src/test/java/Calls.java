/** The calls by number, on the class and on the Model alike. */
final class Calls {
    static final String[] NAMES = {
        "row", "lay", "at", "tear", "copy", "mean", "text", "put", "fault", "piece", "place", "note",
        "mark", "play", "slip", "jump", "anew", "undo", "here", "out", "hear", "heard", "image",
        "restore", "fits", "odds", "self", "who", "likely", "began", "tells", "best", "hides", "fewest",
        "modern", "together", "rule", "signs", "line", "letter", "aloud", "lots", "asked", "upper",
        "lower", "count", "finding", "findings", "digest"
    };

    /** How many ints each call takes. */
    static final int[] ARGUMENTS = {
        2, 3, 2, 1, 5, 1, 2, 3, 1, 1, 2, 2,
        2, 0, 2, 2, 1, 1, 0, 1, 0, 1, 1,
        1, 0, 1, 1, 0, 0, 0, 1, 0, 2, 0,
        0, 1, 0, 1, 0, 0, 0, 2, 0, 0,
        0, 1, 0, 1, 0
    };

    private Calls() {
    }

    static long on(BarBehind x, int call, int[] a) {
        return call < 24 ? early(x, call, a) : late(x, call, a);
    }

    static long on(Model m, int call, int[] a) {
        return call < 24 ? early(m, call, a) : late(m, call, a);
    }

    static int numberOf(String name) {
        for (int i = 0; i < NAMES.length; i++) if (NAMES[i].equals(name)) return i;
        throw new IllegalArgumentException(name);
    }

    private static long early(BarBehind x, int call, int[] a) {
        switch (call) {
            case 0: return x.row(a[0], a[1]);
            case 1: return x.lay(a[0], a[1], a[2]);
            case 2: return x.at(a[0], a[1]);
            case 3: return x.tear(a[0]);
            case 4: return x.copy(a[0], a[1], a[2], a[3], a[4]);
            case 5: return x.mean(a[0]);
            case 6: return x.text(a[0], a[1]);
            case 7: return x.put(a[0], a[1], a[2]);
            case 8: return x.fault(a[0]);
            case 9: return x.piece(a[0]);
            case 10: return x.place(a[0], a[1]);
            case 11: return x.note(a[0], a[1]);
            case 12: return x.mark(a[0], a[1]);
            case 13: return x.play();
            case 14: return x.slip(a[0], a[1]);
            case 15: return x.jump(a[0], a[1]);
            case 16: return x.anew(a[0]);
            case 17: return x.undo(a[0]);
            case 18: return x.here();
            case 19: return x.out(a[0]);
            case 20: return x.hear();
            case 21: return x.heard(a[0]);
            case 22: return x.image(a[0]);
            default: return x.restore(a[0]);
        }
    }

    private static long late(BarBehind x, int call, int[] a) {
        switch (call) {
            case 24: return x.fits();
            case 25: return x.odds(a[0]);
            case 26: return x.self(a[0]);
            case 27: return x.who();
            case 28: return x.likely();
            case 29: return x.began();
            case 30: return x.tells(a[0]);
            case 31: return x.best();
            case 32: return x.hides(a[0], a[1]);
            case 33: return x.fewest();
            case 34: return x.modern();
            case 35: return x.together(a[0]);
            case 36: return x.rule();
            case 37: return x.signs(a[0]);
            case 38: return x.line();
            case 39: return x.letter();
            case 40: return x.aloud();
            case 41: return x.lots(a[0], a[1]);
            case 42: return x.asked();
            case 43: return x.upper();
            case 44: return x.lower();
            case 45: return x.count(a[0]);
            case 46: return x.finding();
            case 47: return x.findings(a[0]);
            default: return x.digest();
        }
    }

    private static long early(Model m, int call, int[] a) {
        switch (call) {
            case 0: return m.row(a[0], a[1]);
            case 1: return m.lay(a[0], a[1], a[2]);
            case 2: return m.at(a[0], a[1]);
            case 3: return m.tear(a[0]);
            case 4: return m.copy(a[0], a[1], a[2], a[3], a[4]);
            case 5: return m.mean(a[0]);
            case 6: return m.text(a[0], a[1]);
            case 7: return m.put(a[0], a[1], a[2]);
            case 8: return m.fault(a[0]);
            case 9: return m.piece(a[0]);
            case 10: return m.place(a[0], a[1]);
            case 11: return m.note(a[0], a[1]);
            case 12: return m.mark(a[0], a[1]);
            case 13: return m.play();
            case 14: return m.slip(a[0], a[1]);
            case 15: return m.jump(a[0], a[1]);
            case 16: return m.anew(a[0]);
            case 17: return m.undo(a[0]);
            case 18: return m.here();
            case 19: return m.out(a[0]);
            case 20: return m.hear();
            case 21: return m.heard(a[0]);
            case 22: return m.image(a[0]);
            default: return m.restore(a[0]);
        }
    }

    private static long late(Model m, int call, int[] a) {
        switch (call) {
            case 24: return m.fits();
            case 25: return m.odds(a[0]);
            case 26: return m.self(a[0]);
            case 27: return m.who();
            case 28: return m.likely();
            case 29: return m.began();
            case 30: return m.tells(a[0]);
            case 31: return m.best();
            case 32: return m.hides(a[0], a[1]);
            case 33: return m.fewest();
            case 34: return m.modern();
            case 35: return m.together(a[0]);
            case 36: return m.rule();
            case 37: return m.signs(a[0]);
            case 38: return m.line();
            case 39: return m.letter();
            case 40: return m.aloud();
            case 41: return m.lots(a[0], a[1]);
            case 42: return m.asked();
            case 43: return m.upper();
            case 44: return m.lower();
            case 45: return m.count(a[0]);
            case 46: return m.finding();
            case 47: return m.findings(a[0]);
            default: return m.digest();
        }
    }
}
