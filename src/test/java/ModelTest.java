import java.util.Random;

/** Runs of calls by lots, each call held against the Model, with odd arguments among the others. */
public final class ModelTest {
    private static final int RUNS = 300, CALLS = 430;
    private static final int[] ODD = {
        Integer.MIN_VALUE, Integer.MAX_VALUE, -1, 41, 81, 1000, -128, 2147483646
    };
    private static final String[] NAMES = {
        "row", "lay", "at", "tear", "copy", "mean", "text", "put", "fault", "piece", "place", "note",
        "mark", "play", "slip", "jump", "anew", "undo", "here", "out", "hear", "heard", "image",
        "restore", "fits", "odds", "self", "who", "likely", "began", "tells", "best", "hides", "fewest",
        "modern", "together", "rule", "signs", "line", "letter", "aloud", "lots", "asked", "upper",
        "lower", "count", "finding", "findings", "digest"
    };
    private static final int PLAY = 13, SLIP = 14, PUT = 7, SIGNS = 37;
    private static final Check c = new Check("ModelTest");

    private final Random random;
    private final BarBehind x = new BarBehind();
    private final Model m = new Model();
    private final StringBuilder told = new StringBuilder();
    private boolean wrong = false;

    private ModelTest(long seed) {
        random = new Random(seed);
    }

    public static void main(String[] args) {
        for (int run = 0; run < RUNS; run++) new ModelTest(run).go(run);
        c.end();
    }

    private void go(int run) {
        if (random.nextInt(8) > 0) write(0);
        for (int i = 0; i < CALLS && !wrong; i++) {
            if (random.nextInt(60) == 0) write(random.nextInt(4));
            step();
            check("digest()", x.digest(), m.digest());
            check("asked()", x.asked(), m.asked());
            check("upper()", x.upper(), m.upper());
            check("lower()", x.lower(), m.lower());
            check("finding()", x.finding(), m.finding());
            for (int f = 1; f <= 5; f++) check("findings(" + f + ")", x.findings(f), m.findings(f));
        }
        if (wrong) System.out.println("run " + run + ":" + told);
    }

    private void check(String call, long got, long want) {
        if (got != want) wrong = true;
        c.due(call, got, want);
    }

    private void write(int t) {
        String signs = pieceByLots();
        if (random.nextInt(4) == 0) signs = spoilt(signs);
        x.text(t, signs.length());
        m.text(t, signs.length());
        for (int i = 0; i < signs.length(); i++) {
            x.put(t, i, signs.charAt(i));
            m.put(t, i, signs.charAt(i));
        }
        told.append("\n  text ").append(t).append(" '").append(signs).append("', piece(").append(t).append(")");
        check("fault(" + t + ") of '" + signs + "'", x.fault(t), m.fault(t));
        check("piece(" + t + ") of '" + signs + "'", x.piece(t), m.piece(t));
    }

    private String pieceByLots() {
        int players = 2 + random.nextInt(3);
        int places = 1 + random.nextInt(random.nextInt(5) == 0 ? 16 : 12);
        int notes = 2 + random.nextInt(9);
        String letters = new String[] {"bulgtc", "bbuuggc", "u", "bg", "lt"}[random.nextInt(5)];
        StringBuilder signs = new StringBuilder(" ".repeat(random.nextInt(2))).append('q').append(players);
        for (int i = 0; i < places; i++) {
            if (random.nextInt(9) == 0) signs.append(' ');
            signs.append(letters.charAt(random.nextInt(letters.length())));
            int unison = random.nextInt(notes);
            boolean alike = random.nextInt(3) == 0;
            for (int p = 0; p < players; p++) signs.append(alike ? unison : random.nextInt(notes));
        }
        return signs.length() > 80 ? signs.substring(0, 80) : signs.toString();
    }

    private String spoilt(String signs) {
        StringBuilder other = new StringBuilder(signs);
        int i = random.nextInt(signs.length());
        switch (random.nextInt(3)) {
            case 0: other.setLength(i); break;
            case 1: other.setCharAt(i, (char) random.nextInt(256)); break;
            default: other.setCharAt(i, " q5b0lz".charAt(random.nextInt(7))); break;
        }
        return other.toString();
    }

    private int arg(int bound) {
        if (random.nextInt(40) == 0) return ODD[random.nextInt(ODD.length)];
        return random.nextInt(bound + 1) - (random.nextInt(12) == 0 ? 1 : 0);
    }

    private int value() {
        return random.nextInt(3) == 0 ? ODD[random.nextInt(ODD.length)] : random.nextInt();
    }

    private int step(int bound) {
        return random.nextInt(10) == 0 ? arg(3) : random.nextInt(2 * bound + 1) - bound;
    }

    private int chosen() {
        int lot = random.nextInt(20);
        if (lot < 4) return PLAY;
        if (lot < 6) return SLIP;
        return random.nextInt(NAMES.length);
    }

    private void step() {
        int call = chosen();
        // The texts of the pieces are not to be spoilt too often.
        if (call == PUT && random.nextInt(3) > 0) call = SIGNS;
        int[] a = {arg(6), arg(6), arg(6), arg(6), arg(6)};
        if (call == 0 || call == 6) a[1] = arg(random.nextInt(2) == 0 ? 6 : 82);
        if (call == 1 || call == 7) a[2] = value();
        if (call == 10 || call == 11 || call == 12 || call == 30) a[call == 11 ? 1 : 0] = arg(14);
        if (call == SLIP) a[1] = step(1);
        if (call == 17) a[0] = arg(41);
        if (call == 32) a[1] = step(2);
        if (call == 41) {
            a[0] = arg(21);
            a[1] = random.nextInt(9) == 0 ? arg(2) : random.nextInt() & Integer.MAX_VALUE;
        }
        if (call == 45) a[0] = arg(9);
        String text = NAMES[call] + java.util.Arrays.toString(a);
        told.append("\n  ").append(text);
        check(text, call < 24 ? early(call, a) : late(call, a), call < 24 ? earlyDue(call, a) : lateDue(call, a));
    }

    private long early(int call, int[] a) {
        switch (call) {
            case 0: return x.row(a[0], a[1]);
            case 1: return x.lay(a[0], a[1], a[2]);
            case 2: return x.at(a[0], a[1]);
            case 3: return x.tear(a[0]);
            case 4: return x.copy(a[0], a[1], a[2], a[3], a[4]);
            case 5: return x.mean(a[0]);
            case 6: return x.text(a[0], a[1]);
            case 7: return x.put(a[0], a[1], a[2]);
            case 8: return x.fault(a[0]);
            case 9: return x.piece(a[0]);
            case 10: return x.place(a[0], a[1]);
            case 11: return x.note(a[0], a[1]);
            case 12: return x.mark(a[0], a[1]);
            case 13: return x.play();
            case 14: return x.slip(a[0], a[1]);
            case 15: return x.jump(a[0], a[1]);
            case 16: return x.anew(a[0]);
            case 17: return x.undo(a[0]);
            case 18: return x.here();
            case 19: return x.out(a[0]);
            case 20: return x.hear();
            case 21: return x.heard(a[0]);
            case 22: return x.image(a[0]);
            default: return x.restore(a[0]);
        }
    }

    private long earlyDue(int call, int[] a) {
        switch (call) {
            case 0: return m.row(a[0], a[1]);
            case 1: return m.lay(a[0], a[1], a[2]);
            case 2: return m.at(a[0], a[1]);
            case 3: return m.tear(a[0]);
            case 4: return m.copy(a[0], a[1], a[2], a[3], a[4]);
            case 5: return m.mean(a[0]);
            case 6: return m.text(a[0], a[1]);
            case 7: return m.put(a[0], a[1], a[2]);
            case 8: return m.fault(a[0]);
            case 9: return m.piece(a[0]);
            case 10: return m.place(a[0], a[1]);
            case 11: return m.note(a[0], a[1]);
            case 12: return m.mark(a[0], a[1]);
            case 13: return m.play();
            case 14: return m.slip(a[0], a[1]);
            case 15: return m.jump(a[0], a[1]);
            case 16: return m.anew(a[0]);
            case 17: return m.undo(a[0]);
            case 18: return m.here();
            case 19: return m.out(a[0]);
            case 20: return m.hear();
            case 21: return m.heard(a[0]);
            case 22: return m.image(a[0]);
            default: return m.restore(a[0]);
        }
    }

    private long late(int call, int[] a) {
        switch (call) {
            case 24: return x.fits();
            case 25: return x.odds(a[0]);
            case 26: return x.self(a[0]);
            case 27: return x.who();
            case 28: return x.likely();
            case 29: return x.began();
            case 30: return x.tells(a[0]);
            case 31: return x.best();
            case 32: return x.hides(a[0], a[1]);
            case 33: return x.fewest();
            case 34: return x.modern();
            case 35: return x.together(a[0]);
            case 36: return x.rule();
            case 37: return x.signs(a[0]);
            case 38: return x.line();
            case 39: return x.letter();
            case 40: return x.aloud();
            case 41: return x.lots(a[0], a[1]);
            case 42: return x.asked();
            case 43: return x.upper();
            case 44: return x.lower();
            case 45: return x.count(a[0]);
            case 46: return x.finding();
            case 47: return x.findings(a[0]);
            default: return x.digest();
        }
    }

    private long lateDue(int call, int[] a) {
        switch (call) {
            case 24: return m.fits();
            case 25: return m.odds(a[0]);
            case 26: return m.self(a[0]);
            case 27: return m.who();
            case 28: return m.likely();
            case 29: return m.began();
            case 30: return m.tells(a[0]);
            case 31: return m.best();
            case 32: return m.hides(a[0], a[1]);
            case 33: return m.fewest();
            case 34: return m.modern();
            case 35: return m.together(a[0]);
            case 36: return m.rule();
            case 37: return m.signs(a[0]);
            case 38: return m.line();
            case 39: return m.letter();
            case 40: return m.aloud();
            case 41: return m.lots(a[0], a[1]);
            case 42: return m.asked();
            case 43: return m.upper();
            case 44: return m.lower();
            case 45: return m.count(a[0]);
            case 46: return m.finding();
            case 47: return m.findings(a[0]);
            default: return m.digest();
        }
    }
}
