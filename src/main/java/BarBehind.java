import java.util.Arrays;

/**
 * Somebody is a bar behind: up to four at stands play a piece, each perhaps some bars off, and from
 * what clashes it is told who that can be. The promises behind each call stand in the document.
 */
public final class BarBehind {
    public static final int BAD = -1, FULL = -2, FINDING = -3, STATE = -4, SPENT = -6, NONE = -9;

    private static final int NOTHING = 1, BEYOND = 2, UNLIKE = 3, NOUGHT = 4, SIZE = 5;
    private static final int FINE = 0;

    private static final int MOST_PLAYERS = 4, MOST_PLACES = 14, MOST_DEEDS = 40;
    private static final int FARTHEST = 2, OUTS_OF_ONE = 5, LONGEST_WAY = 20;

    private static final int BAR = 0, UNISON = 1, LONG = 2, LETTER = 3, TIED = 4, CHANCE = 5;

    private final Rows rows;
    private final Texts texts;
    private final Reader reader;
    private final Piece score;
    private final Evening evening;
    private final Shelf shelf;
    private final Belief belief;
    private final Telling telling;
    private final Gathering gathering;
    private final int[] found;
    private int told, latest;
    private long top, bottom;

    public BarBehind() {
        rows = new Rows();
        texts = new Texts();
        reader = new Reader(texts);
        score = new Piece();
        evening = new Evening(score);
        shelf = new Shelf();
        belief = new Belief(score, evening);
        telling = new Telling(score);
        gathering = new Gathering(score);
        found = new int[SIZE + 1];
        bottom = 1;
    }

    // ---- 1 rows, texts, pieces

    public int row(int r, int n) {
        if (!rows.sizes.isNumber(r) || n > Rows.LONGEST) return BAD;
        if (n < 0) return find(SIZE);
        rows.make(r, n);
        return n;
    }

    public int lay(int r, int i, int v) {
        int refusal = refusalOfPlace(r, i);
        if (refusal != FINE) return refusal;
        told = rows.get(r, i);
        rows.set(r, i, v);
        return 1;
    }

    public int at(int r, int i) {
        int refusal = refusalOfPlace(r, i);
        if (refusal != FINE) return refusal;
        told = rows.get(r, i);
        return 1;
    }

    public int tear(int r) {
        int refusal = refusalOfRow(r);
        if (refusal != FINE) return refusal;
        rows.sizes.drop(r);
        return 1;
    }

    public int copy(int r, int i, int to, int j, int n) {
        if (!rows.sizes.isNumber(r) || !rows.sizes.isNumber(to)) return BAD;
        if (n < 0) return find(SIZE);
        if (!rows.sizes.isThere(r) || !rows.sizes.isThere(to)) return find(NOTHING);
        if (!rows.sizes.holds(r, i, n) || !rows.sizes.holds(to, j, n)) return find(BEYOND);
        rows.move(r, i, to, j, n);
        return 1;
    }

    public int mean(int r) {
        int refusal = refusalOfRow(r);
        if (refusal != FINE) return refusal;
        int size = rows.sizes.of(r);
        if (size <= 0) return find(NOUGHT);
        told = (int) (rows.sum(r) / size);
        return 1;
    }

    public int text(int t, int n) {
        if (!texts.sizes.isNumber(t) || n > Texts.LONGEST) return BAD;
        if (n < 0) return find(SIZE);
        texts.make(t, n);
        return n;
    }

    public int put(int t, int i, int v) {
        int refusal = refusalOfText(t);
        if (refusal != FINE) return refusal;
        if (!texts.sizes.holds(t, i, 1)) return find(BEYOND);
        int was = texts.get(t, i);
        texts.set(t, i, v);
        return was + 1000;
    }

    public int fault(int t) {
        int refusal = refusalOfText(t);
        if (refusal != FINE) return refusal;
        return reader.read(t);
    }

    public int piece(int t) {
        int refusal = refusalOfText(t);
        if (refusal != FINE) return refusal;
        if (reader.read(t) != NONE) return STATE;
        score.take(reader);
        evening.replay(0);
        shelf.sizes.dropAll();
        return score.places;
    }

    public int place(int x, int what) {
        if (!score.hasPlace(x) || what < 0 || what > 2) return BAD;
        told = score.tellOf(x, what);
        return 1;
    }

    public int note(int p, int x) {
        if (!score.hasPlayer(p) || !score.hasPlace(x)) return BAD;
        return score.noteOf(p, x);
    }

    public int mark(int x, int kind) {
        if (!score.hasPlace(x) || kind < UNISON || kind > CHANCE) return BAD;
        if (!score.isOf(x, kind)) return find(UNLIKE);
        return score.markOf(x, kind);
    }

    // ---- 2 played

    public int play() {
        if (evening.isOver()) return STATE;
        if (evening.isFull()) return FULL;
        int x = evening.at;
        evening.act(Evening.PLAYED, 0, 0);
        return evening.heardOf(x);
    }

    public int slip(int p, int d) {
        if (!score.hasPlayer(p) || d != -1 && d != 1) return BAD;
        if (!evening.canSlip(p, d)) return STATE;
        if (evening.isFull()) return FULL;
        evening.act(Evening.SLIPPED, p, d + 1);
        return evening.outOf(p) + FARTHEST;
    }

    public int jump(int p, int to) {
        if (!score.hasPlayer(p) || !score.hasPlayer(to) || p == to) return BAD;
        if (evening.isFull()) return FULL;
        int was = evening.outOf(p);
        evening.act(Evening.JUMPED, p, to);
        return evening.outOf(p) - was + 2 * FARTHEST;
    }

    public int anew(int letter) {
        int x = score.placeOfLetter(letter);
        if (x == NONE) return BAD;
        if (evening.isFull()) return FULL;
        evening.act(Evening.BEGUN, 0, x);
        return x;
    }

    public int undo(int n) {
        if (n < 0 || n > evening.done) return BAD;
        int undone = evening.done - n;
        evening.replay(n);
        return undone;
    }

    public int here() {
        if (score.isEmpty()) return STATE;
        told = evening.at - evening.start;
        return evening.at;
    }

    public int out(int p) {
        if (!score.hasPlayer(p)) return BAD;
        return evening.outOf(p) + FARTHEST;
    }

    public int hear() {
        if (evening.isOver()) return STATE;
        return score.heardOn(evening.at, evening.outs);
    }

    public int heard(int r) {
        if (!rows.sizes.isNumber(r)) return BAD;
        int size = evening.at - evening.start;
        rows.make(r, size);
        for (int i = 0; i < size; i++) rows.set(r, i, evening.heardOf(evening.start + i));
        return size;
    }

    public int image(int k) {
        if (!shelf.sizes.isNumber(k)) return BAD;
        if (score.isEmpty()) return STATE;
        shelf.keep(k, evening);
        return evening.done;
    }

    public int restore(int k) {
        if (!shelf.sizes.isNumber(k)) return BAD;
        if (!shelf.sizes.isThere(k)) return find(NOTHING);
        shelf.bringBack(k, evening);
        return evening.done;
    }

    // ---- 3 who it can be

    public int fits() {
        if (score.isEmpty()) return STATE;
        belief.weighAll();
        told = belief.first;
        return belief.fitting;
    }

    public int odds(int p) {
        if (!score.hasPlayer(p)) return BAD;
        belief.weighAll();
        if (belief.fitting == 0) return find(NOUGHT);
        tellChance(belief.weightOut(p), belief.total);
        return 1;
    }

    public int self(int p) {
        if (!score.hasPlayer(p)) return BAD;
        belief.weighAll();
        if (belief.fittingWithout(p) == 0) return find(NOUGHT);
        int all = belief.weightAt(p, 0);
        tellChance(all - belief.nobody, all);
        return 1;
    }

    public int who() {
        if (score.isEmpty()) return STATE;
        belief.weighAll();
        if (belief.fitting == 0) return find(NOUGHT);
        int p = belief.likeliestPlayer();
        if (p == NONE) return NONE;
        told = belief.likeliestOut(p) + FARTHEST;
        return p;
    }

    public int likely() {
        if (score.isEmpty()) return STATE;
        belief.weighAll();
        return belief.heaviest;
    }

    public int began() {
        if (score.isEmpty()) return STATE;
        int ways = belief.countBeginnings();
        told = belief.beginnings;
        return ways;
    }

    // ---- 4 which bars tell

    public int tells(int x) {
        if (!score.hasPlace(x)) return BAD;
        return telling.unlike(x);
    }

    public int best() {
        if (score.isEmpty()) return STATE;
        int best = 0, most = 0;
        for (int x = 0; x < score.places; x++) {
            int unlike = telling.unlike(x);
            if (unlike > most) {
                most = unlike;
                best = x;
            }
        }
        told = most;
        return best;
    }

    public int hides(int p, int d) {
        if (!score.hasPlayer(p) || d < -FARTHEST || d > FARTHEST || d == 0) return BAD;
        return telling.hiding(p, d);
    }

    public int fewest() {
        if (score.isEmpty()) return STATE;
        telling.learnHiding();
        for (int size = 1; size <= 3; size++) {
            int set = telling.leastTelling(size);
            if (set != NONE) {
                told = set;
                return size;
            }
        }
        return NONE;
    }

    public int modern() {
        int set = 0, quiet = 0;
        for (int x = 0; x < score.places; x++) {
            if (score.heardPlainly(x) == 0) continue;
            set |= 1 << x;
            if (telling.heardWith(x, 0, -1) == 0) quiet++;
        }
        told = quiet;
        return set;
    }

    // ---- 5 together

    public int together(int rule) {
        if (!gathering.isRule(rule)) return BAD;
        if (score.isEmpty()) return STATE;
        int bars = gathering.barsFrom(evening.outs, rule);
        if (bars == NONE) return NONE;
        told = gathering.spot() + FARTHEST;
        return bars;
    }

    public int rule() {
        if (score.isEmpty()) return STATE;
        int soonest = NONE, fewest = LONGEST_WAY + 1;
        for (int rule = 0; rule < Gathering.RULES; rule++) {
            int bars = gathering.barsFrom(evening.outs, rule);
            if (bars != NONE && bars < fewest) {
                fewest = bars;
                soonest = rule;
            }
        }
        if (soonest == NONE) return NONE;
        told = fewest;
        return soonest;
    }

    public int signs(int rule) {
        if (!gathering.isRule(rule)) return BAD;
        if (score.isEmpty()) return STATE;
        return gathering.countMeeting(rule);
    }

    // ---- 6 stop or go on

    public int line() {
        if (evening.isOver()) return STATE;
        int here = evening.at;
        int more = 0;
        for (int x = here; x < score.places && (x == here || !score.isOf(x, LETTER)); x++) {
            more += Integer.bitCount(score.heardOn(x, evening.outs));
            more -= Integer.bitCount(score.heardPlainly(x));
        }
        told = here - score.lastLetterTill(here);
        return Math.max(more, 0);
    }

    public int letter() {
        if (score.isEmpty()) return STATE;
        int nearest = NONE, least = MOST_PLACES + 1;
        int letters = score.countOf(LETTER);
        for (int n = 0; n < letters; n++) {
            int way = Math.abs(score.placeOfLetter(n) - evening.at);
            if (way < least) {
                least = way;
                nearest = n;
            }
        }
        if (nearest == NONE) return NONE;
        told = least;
        return nearest;
    }

    public int aloud() {
        if (score.isEmpty()) return STATE;
        belief.weighAll();
        if (belief.fitting == 0) return find(NOUGHT);
        int caller = 0;
        for (int p = 1; p < score.players; p++) {
            if (belief.fittingWithout(p) < belief.fittingWithout(caller)) caller = p;
        }
        told = belief.fittingWithout(caller);
        return caller;
    }

    // ---- 7 lots

    public int lots(int n, int seed) {
        if (n < 1 || n > 20 || seed < 1 || seed > 2147483646) return BAD;
        if (evening.isOver()) return STATE;
        int lot = seed;
        int played = 0;
        for (int i = 0; i < n && !evening.isOver() && !evening.isFull(); i++) {
            lot = (int) (48271L * lot % 2147483647L);
            slipByLot(lot);
            // The slip may have been the fortieth DEED: then the PLACE behind it stays unplayed.
            if (!evening.isFull()) {
                evening.act(Evening.PLAYED, 0, 0);
                played++;
            }
        }
        return played;
    }

    // ---- 8 what is told

    public int asked() {
        return told;
    }

    public long upper() {
        return top;
    }

    public long lower() {
        return bottom;
    }

    public int count(int what) {
        if (what < 0 || what > 8) return BAD;
        return tally(what);
    }

    public int finding() {
        return latest;
    }

    public int findings(int f) {
        if (f < NOTHING || f > SIZE) return BAD;
        return found[f];
    }

    public long digest() {
        long h = 17;
        for (int what = 0; what <= 8; what++) h = 31 * h + tally(what);
        h = 31 * h + evening.at;
        for (int x = 0; x < score.places; x++) {
            for (int what = 0; what <= 2; what++) h = 31 * h + score.tellOf(x, what);
        }
        for (int p = 0; p < score.players; p++) h = 31 * h + evening.outOf(p) + FARTHEST;
        for (int x = evening.start; x < evening.at; x++) h = 31 * h + evening.heardOf(x);
        for (int k = 0; k < Shelf.PLACES; k++) h = 31 * h + shelf.sizes.of(k);
        return texts.digestOn(rows.digestOn(h));
    }

    // ---- helpers of the calls

    private int find(int what) {
        latest = what;
        if (what >= 0 && what < found.length) found[what]++;
        return FINDING;
    }

    private int refusalOfRow(int r) {
        if (!rows.sizes.isNumber(r)) return BAD;
        return rows.sizes.isThere(r) ? FINE : find(NOTHING);
    }

    private int refusalOfPlace(int r, int i) {
        int refusal = refusalOfRow(r);
        if (refusal != FINE) return refusal;
        return rows.sizes.holds(r, i, 1) ? FINE : find(BEYOND);
    }

    private int refusalOfText(int t) {
        if (!texts.sizes.isNumber(t)) return BAD;
        return texts.sizes.isThere(t) ? FINE : find(NOTHING);
    }

    private void tellChance(int part, int whole) {
        int divisor = greatestDivisor(part, whole);
        if (divisor == 0) return;
        top = part / divisor;
        bottom = whole / divisor;
    }

    private static int greatestDivisor(int a, int b) {
        int x = a, y = b;
        // The rests shrink far faster than one a turn; the bound is only there to be seen.
        for (int turn = 0; turn < 64 && y > 0; turn++) {
            int rest = x % y;
            x = y;
            y = rest;
        }
        return x;
    }

    private void slipByLot(int lot) {
        if (score.players <= 0) return;
        int every = score.isOf(evening.at, TIED) ? 2 : 4;
        if (lot / 64 % every != 0) return;
        int p = lot % score.players;
        int d = lot / 1024 % 2 == 1 ? 1 : -1;
        if (evening.canSlip(p, d)) evening.act(Evening.SLIPPED, p, d + 1);
    }

    private int tally(int what) {
        switch (what) {
            case 0: return score.players;
            case 1: return score.places;
            case 2: return evening.done;
            case 3: return evening.countOut();
            case 4: return score.countOf(LETTER);
            case 5: return score.countOf(LONG);
            case 6: return rows.sizes.countThere();
            case 7: return texts.sizes.countThere();
            default: return shelf.sizes.countThere();
        }
    }

    // ---- OUTS told as figures

    private static int allOuts(int players) {
        int all = 1;
        for (int p = 0; p < players; p++) all *= OUTS_OF_ONE;
        return all;
    }

    private static void spell(int code, int[] outs) {
        int rest = code;
        for (int p = 0; p < outs.length; p++) {
            outs[p] = rest % OUTS_OF_ONE - FARTHEST;
            rest /= OUTS_OF_ONE;
        }
    }

    /** How long each of some things is that may be missing. */
    private static final class Sizes {
        private static final int MISSING = -1;
        private final int[] sizes;

        Sizes(int n) {
            sizes = new int[Math.max(n, 0)];
            Arrays.fill(sizes, MISSING);
        }

        boolean isNumber(int k) {
            return k >= 0 && k < sizes.length;
        }

        boolean isThere(int k) {
            return of(k) != MISSING;
        }

        int of(int k) {
            return isNumber(k) ? sizes[k] : MISSING;
        }

        // As long, since a place and a number of places may overflow together.
        boolean holds(int k, int i, int n) {
            return i >= 0 && n >= 0 && (long) i + n <= of(k);
        }

        void become(int k, int size) {
            if (isNumber(k)) sizes[k] = size;
        }

        void drop(int k) {
            become(k, MISSING);
        }

        void dropAll() {
            Arrays.fill(sizes, MISSING);
        }

        int countThere() {
            int there = 0;
            for (int size : sizes) if (size != MISSING) there++;
            return there;
        }
    }

    /** ROWS 0 .. 5 of ints. */
    private static final class Rows {
        static final int ROWS = 6, LONGEST = 40;
        final Sizes sizes = new Sizes(ROWS);
        private final int[][] cells = new int[ROWS][LONGEST];

        void make(int r, int n) {
            if (!sizes.isNumber(r) || n < 0 || n > LONGEST) return;
            sizes.become(r, n);
            Arrays.fill(cells[r], 0);
        }

        int get(int r, int i) {
            return sizes.holds(r, i, 1) ? cells[r][i] : 0;
        }

        void set(int r, int i, int v) {
            if (sizes.holds(r, i, 1)) cells[r][i] = v;
        }

        void move(int r, int i, int to, int j, int n) {
            if (!sizes.holds(r, i, n) || !sizes.holds(to, j, n)) return;
            System.arraycopy(cells[r], i, cells[to], j, n);
        }

        long sum(int r) {
            long sum = 0;
            int size = sizes.of(r);
            for (int i = 0; i < size; i++) sum += get(r, i);
            return sum;
        }

        long digestOn(long before) {
            long h = before;
            for (int r = 0; r < ROWS; r++) {
                int size = sizes.of(r);
                h = 31 * h + size;
                for (int i = 0; i < size; i++) h = 31 * h + get(r, i);
            }
            return h;
        }
    }

    /** TEXTS 0 .. 3 of bytes. */
    private static final class Texts {
        static final int TEXTS = 4, LONGEST = 80, BLANK = 32;
        final Sizes sizes = new Sizes(TEXTS);
        private final byte[][] bytes = new byte[TEXTS][LONGEST];

        void make(int t, int n) {
            if (!sizes.isNumber(t) || n < 0 || n > LONGEST) return;
            sizes.become(t, n);
            Arrays.fill(bytes[t], (byte) BLANK);
        }

        int get(int t, int i) {
            return t >= 0 && t < TEXTS && i >= 0 && i < LONGEST ? bytes[t][i] : BLANK;
        }

        void set(int t, int i, int v) {
            if (sizes.holds(t, i, 1)) bytes[t][i] = (byte) v;
        }

        long digestOn(long before) {
            long h = before;
            for (int t = 0; t < TEXTS; t++) {
                int size = sizes.of(t);
                h = 31 * h + size;
                for (int i = 0; i < size; i++) h = 31 * h + get(t, i);
            }
            return h;
        }
    }

    /** Reads a PIECE out of a TEXT on the side, so that a FAULT leaves the PIECE as it is. */
    private static final class Reader {
        private static final int[] KIND_LETTERS = {98, 117, 108, 103, 116, 99};
        private final Texts texts;
        final int[] kinds = new int[MOST_PLACES];
        final int[] notes = new int[MOST_PLACES * MOST_PLAYERS];
        int players, places;
        private int text, size, i;

        Reader(Texts texts) {
            this.texts = texts;
        }

        /** The FAULT of a TEXT, or NONE. */
        int read(int t) {
            text = t;
            size = texts.sizes.of(t);
            i = 0;
            players = 0;
            places = 0;
            skipBlanks();
            if (!isNext('q', 'q')) return i;
            i++;
            if (!isNext('2', '4')) return i;
            players = sign() - '0';
            i++;
            skipBlanks();
            for (int n = 0; n <= MOST_PLACES && i < size; n++) {
                if (!readPlace()) return i;
                skipBlanks();
            }
            return places == 0 ? i : NONE;
        }

        private boolean readPlace() {
            int kind = kindMeant();
            if (kind == NONE || places >= MOST_PLACES) return false;
            kinds[places] = kind;
            i++;
            for (int p = 0; p < players; p++) {
                if (!isNext('0', '9')) return false;
                notes[places * MOST_PLAYERS + p] = sign() - '0';
                i++;
            }
            places++;
            return true;
        }

        private int kindMeant() {
            for (int kind = 0; kind < KIND_LETTERS.length; kind++) {
                if (KIND_LETTERS[kind] == sign()) return kind;
            }
            return NONE;
        }

        private void skipBlanks() {
            while (i < size && sign() == Texts.BLANK) i++;
        }

        private boolean isNext(int least, int most) {
            return i < size && sign() >= least && sign() <= most;
        }

        private int sign() {
            return texts.get(text, i);
        }
    }

    /** The PIECE: PLACES of KINDS with the NOTE of each PLAYER, and what CLASHES on them. */
    private static final class Piece {
        private static final int[] KINDS_ABOVE = {NONE, BAR, BAR, UNISON, LONG, BAR};
        private static final int[] NOBODY_OUT = {0, 0, 0, 0};
        private static final int SILENT = -1, REST = 8;
        private final int[] kinds = new int[MOST_PLACES];
        private final int[] notes = new int[MOST_PLACES * MOST_PLAYERS];
        int players, places;

        void take(Reader reader) {
            players = reader.players;
            places = reader.places;
            System.arraycopy(reader.kinds, 0, kinds, 0, kinds.length);
            System.arraycopy(reader.notes, 0, notes, 0, notes.length);
        }

        boolean isEmpty() {
            return places == 0;
        }

        boolean hasPlace(int x) {
            return x >= 0 && x < places;
        }

        boolean hasPlayer(int p) {
            return p >= 0 && p < players;
        }

        int kindOf(int x) {
            return x >= 0 && x < places ? kinds[x] : NONE;
        }

        boolean isOf(int x, int kind) {
            int own = kindOf(x);
            // No KIND has more than two above it.
            for (int up = 0; up < 3 && own >= 0 && own < KINDS_ABOVE.length; up++) {
                if (own == kind) return true;
                own = KINDS_ABOVE[own];
            }
            return false;
        }

        int noteOf(int p, int x) {
            return hasPlayer(p) && hasPlace(x) ? notes[x * MOST_PLAYERS + p] : REST;
        }

        private int soundOf(int p, int x) {
            if (p < 0 || p >= players || x < 0 || x >= places) return SILENT;
            int note = notes[x * MOST_PLAYERS + p];
            return note >= REST ? SILENT : note;
        }

        int heardOn(int x, int[] outs) {
            return clashes(x, kindOf(x), outs);
        }

        int heardPlainly(int x) {
            return heardOn(x, NOBODY_OUT);
        }

        private int clashes(int x, int kind, int[] outs) {
            if (kind == LONG || kind == TIED || outs.length < players) return 0;
            int bits = 0, pair = 0;
            for (int a = 0; a < players; a++) {
                int sound = soundOf(a, x + outs[a]);
                for (int b = a + 1; b < players; b++) {
                    if (clash(kind, sound, soundOf(b, x + outs[b]))) bits |= 1 << pair;
                    pair++;
                }
            }
            return bits;
        }

        private static boolean clash(int kind, int one, int other) {
            if (one == SILENT || other == SILENT) return false;
            int apart = one < other ? other - one : one - other;
            switch (kind) {
                case BAR: return apart == 1 || apart == 6;
                case UNISON: case LETTER: return apart != 0;
                case CHANCE: return apart == 1;
                default: return false;
            }
        }

        int tellOf(int x, int what) {
            switch (what) {
                case 0: return kindOf(x);
                case 1: return heardPlainly(x);
                default: return countSounding(x);
            }
        }

        private int countSounding(int x) {
            int sounding = 0;
            for (int p = 0; p < players; p++) if (soundOf(p, x) != SILENT) sounding++;
            return sounding;
        }

        int markOf(int x, int kind) {
            switch (kind) {
                case UNISON: return isOneNote(x) ? 1 : 0;
                case LONG: return x - countAhead(x, LONG);
                case LETTER: return countAhead(x, LETTER);
                case TIED: return countTied(x);
                default: return Integer.bitCount(clashes(x, BAR, NOBODY_OUT));
            }
        }

        private boolean isOneNote(int x) {
            int only = SILENT;
            for (int p = 0; p < players; p++) {
                int sound = soundOf(p, x);
                if (sound != SILENT && only != SILENT && sound != only) return false;
                if (sound != SILENT) only = sound;
            }
            return true;
        }

        private int countTied(int x) {
            int tied = 0;
            for (int p = 0; p < players; p++) {
                int sound = soundOf(p, x);
                if (sound != SILENT && sound == soundOf(p, x - 1)) tied++;
            }
            return tied;
        }

        private int countAhead(int x, int kind) {
            int ahead = 0;
            for (int y = 0; y < x && y < places; y++) if (isOf(y, kind)) ahead++;
            return ahead;
        }

        int countOf(int kind) {
            return countAhead(places, kind);
        }

        int placeOfLetter(int letter) {
            int number = 0;
            for (int x = 0; x < places; x++) {
                if (!isOf(x, LETTER)) continue;
                if (number == letter) return x;
                number++;
            }
            return NONE;
        }

        int lastLetterTill(int x) {
            for (int y = x; y > 0; y--) if (isOf(y, LETTER)) return y;
            return 0;
        }
    }

    /** What was done since the PIECE was laid out; the rest of the state follows from the DEEDS. */
    private static final class Evening {
        static final int PLAYED = 0, SLIPPED = 1, JUMPED = 2, BEGUN = 3;
        private final Piece piece;
        private final int[] heard = new int[MOST_PLACES];
        final int[] deeds = new int[MOST_DEEDS];
        final int[] outs = new int[MOST_PLAYERS];
        int done, at, start;

        Evening(Piece piece) {
            this.piece = piece;
        }

        boolean isOver() {
            return at >= piece.places;
        }

        boolean isFull() {
            return done >= MOST_DEEDS;
        }

        int outOf(int p) {
            return p >= 0 && p < outs.length ? outs[p] : 0;
        }

        int heardOf(int x) {
            return x >= start && x < at && x < heard.length ? heard[x] : 0;
        }

        int countOut() {
            int count = 0;
            for (int out : outs) if (out != 0) count++;
            return count;
        }

        boolean canSlip(int p, int d) {
            return Math.abs(outOf(p) + d) <= FARTHEST;
        }

        /** A DEED is kept as one int: its kind, a PLAYER (0 .. 3), and what more there is (0 .. 15). */
        void act(int kind, int p, int more) {
            if (isFull()) return;
            deeds[done] = kind * 64 + p * 16 + more;
            apply(deeds[done]);
            done++;
        }

        void replay(int n) {
            beginAt(0);
            int till = Math.min(n, MOST_DEEDS);
            for (int i = 0; i < till; i++) apply(deeds[i]);
            done = till;
        }

        private void apply(int deed) {
            int p = deed / 16 % 4, more = deed % 16;
            switch (deed / 64) {
                case PLAYED: goOnHearing(piece.heardOn(at, outs)); break;
                case SLIPPED: setOut(p, outOf(p) + more - 1); break;
                case JUMPED: setOut(p, outOf(more)); break;
                default: beginAt(more); break;
            }
        }

        private void goOnHearing(int pairs) {
            if (at < 0 || at >= heard.length) return;
            heard[at] = pairs;
            at++;
        }

        private void setOut(int p, int out) {
            if (p >= 0 && p < outs.length) outs[p] = out;
        }

        private void beginAt(int x) {
            at = x;
            start = x;
            Arrays.fill(outs, 0);
        }
    }

    /** Kept EVENINGS: their DEEDS, since all else can be played again from these. */
    private static final class Shelf {
        static final int PLACES = 3;
        final Sizes sizes = new Sizes(PLACES);
        private final int[][] deeds = new int[PLACES][MOST_DEEDS];

        void keep(int k, Evening evening) {
            if (!sizes.isNumber(k)) return;
            System.arraycopy(evening.deeds, 0, deeds[k], 0, MOST_DEEDS);
            sizes.become(k, evening.done);
        }

        void bringBack(int k, Evening evening) {
            if (!sizes.isThere(k)) return;
            System.arraycopy(deeds[k], 0, evening.deeds, 0, MOST_DEEDS);
            evening.replay(sizes.of(k));
        }
    }

    /** Which OUTS FIT what was HEARD, what they weigh, and where one slip can have begun. */
    private static final class Belief {
        private final Piece piece;
        private final Evening evening;
        private final int[] outs = new int[MOST_PLAYERS];
        private final int[] weights = new int[MOST_PLAYERS * OUTS_OF_ONE];
        private final int[] without = new int[MOST_PLAYERS];
        private int heaviestWeight;
        int fitting, first, heaviest, total, nobody, beginnings;

        Belief(Piece piece, Evening evening) {
            this.piece = piece;
            this.evening = evening;
        }

        void weighAll() {
            fitting = 0;
            first = NONE;
            heaviest = NONE;
            heaviestWeight = 0;
            total = 0;
            nobody = 0;
            Arrays.fill(weights, 0);
            Arrays.fill(without, 0);
            int all = allOuts(piece.players);
            for (int code = 0; code < all; code++) {
                spell(code, outs);
                if (agrees(evening.start, evening.at)) weigh(code);
            }
        }

        private boolean agrees(int from, int till) {
            for (int x = from; x < till; x++) {
                if (piece.heardOn(x, outs) != evening.heardOf(x)) return false;
            }
            return true;
        }

        private void weigh(int code) {
            int weight = 1, out = 0;
            for (int p = 0; p < piece.players; p++) {
                weight *= 4 >> Math.abs(outs[p]);
                if (outs[p] != 0) out++;
            }
            if (fitting == 0) first = code;
            fitting++;
            total += weight;
            if (out == 0) nobody = weight;
            if (weight > heaviestWeight) {
                heaviestWeight = weight;
                heaviest = code;
            }
            for (int p = 0; p < piece.players; p++) {
                weights[p * OUTS_OF_ONE + outs[p] + FARTHEST] += weight;
                if (outs[p] == 0) without[p]++;
            }
        }

        int weightAt(int p, int d) {
            if (!piece.hasPlayer(p) || d < -FARTHEST || d > FARTHEST) return 0;
            return weights[p * OUTS_OF_ONE + d + FARTHEST];
        }

        int weightOut(int p) {
            return total - weightAt(p, 0);
        }

        int fittingWithout(int p) {
            return piece.hasPlayer(p) ? without[p] : 0;
        }

        int likeliestPlayer() {
            int likeliest = NONE, most = 0;
            for (int p = 0; p < piece.players; p++) {
                if (weightOut(p) > most) {
                    most = weightOut(p);
                    likeliest = p;
                }
            }
            return likeliest;
        }

        int likeliestOut(int p) {
            int likeliest = -FARTHEST;
            for (int d = -FARTHEST; d <= FARTHEST; d++) {
                if (d != 0 && weightAt(p, d) > weightAt(p, likeliest)) likeliest = d;
            }
            return likeliest;
        }

        int countBeginnings() {
            int ways = 0;
            beginnings = 0;
            for (int x = evening.start; x < evening.at; x++) {
                int here = countSlipsAhead(x);
                if (here > 0) beginnings |= 1 << x;
                ways += here;
            }
            return ways;
        }

        private int countSlipsAhead(int x) {
            Arrays.fill(outs, 0);
            if (!agrees(evening.start, x)) return 0;
            int ways = 0;
            for (int p = 0; p < piece.players; p++) {
                for (int d = -1; d <= 1; d += 2) {
                    outs[p] = d;
                    if (agrees(x, evening.at)) ways++;
                }
                outs[p] = 0;
            }
            return ways;
        }
    }

    /** Which PLACES tell that somebody is OUT, and which hide it. */
    private static final class Telling {
        private final Piece piece;
        private final int[] outs = new int[MOST_PLAYERS];
        private final int[] hidden = new int[2 * MOST_PLAYERS];

        Telling(Piece piece) {
            this.piece = piece;
        }

        int heardWith(int x, int p, int d) {
            Arrays.fill(outs, 0);
            if (p >= 0 && p < outs.length) outs[p] = d;
            return piece.heardOn(x, outs);
        }

        int unlike(int x) {
            // What is HEARD is one of 64 sets of PAIRS: as many as a long has bits.
            long met = 0;
            int all = allOuts(piece.players);
            for (int code = 0; code < all; code++) {
                spell(code, outs);
                met |= 1L << piece.heardOn(x, outs);
            }
            return Long.bitCount(met);
        }

        int hiding(int p, int d) {
            int set = 0;
            for (int x = 0; x < piece.places; x++) {
                if (heardWith(x, p, d) == piece.heardPlainly(x)) set |= 1 << x;
            }
            return set;
        }

        void learnHiding() {
            // Cases of PLAYERS that there are not hide nothing, so that every set tells them.
            Arrays.fill(hidden, 0);
            for (int p = 0; p < piece.players; p++) {
                hidden[2 * p] = hiding(p, -1);
                hidden[2 * p + 1] = hiding(p, 1);
            }
        }

        /** The least set of so many PLACES that tells all that learnHiding() learnt, or NONE. */
        int leastTelling(int size) {
            return leastSet(hidden, 0, piece.places, size);
        }

        // The highest PLACE is chosen first and grows slowest, so the first set found is the least.
        private static int leastSet(int[] hidden, int chosen, int below, int size) {
            if (size <= 0) return tellsAll(hidden, chosen) ? chosen : NONE;
            for (int x = 0; x < below; x++) {
                int set = leastSet(hidden, chosen | 1 << x, x, size - 1);
                if (set != NONE) return set;
            }
            return NONE;
        }

        private static boolean tellsAll(int[] hidden, int set) {
            for (int hiding : hidden) if ((set & ~hiding) == 0) return false;
            return true;
        }
    }

    /** The RULES by which they come together, bar by bar. */
    private static final class Gathering {
        static final int RULES = 6;
        private final Piece piece;
        private final int[] from = new int[MOST_PLAYERS];
        private final int[] spots = new int[MOST_PLAYERS];
        private final int[] next = new int[MOST_PLAYERS];

        Gathering(Piece piece) {
            this.piece = piece;
        }

        boolean isRule(int rule) {
            return rule >= 0 && rule < RULES;
        }

        int spot() {
            return spots[0];
        }

        /** In how many bars all are at one by a RULE, or NONE; spot() is where. */
        int barsFrom(int[] outs, int rule) {
            for (int p = 0; p < spots.length && p < outs.length; p++) spots[p] = outs[p];
            for (int bars = 0; bars <= LONGEST_WAY; bars++) {
                if (areAtOne()) return bars;
                goOneBar(rule);
            }
            return NONE;
        }

        int countMeeting(int rule) {
            int meeting = 0;
            int all = allOuts(piece.players);
            for (int code = 0; code < all; code++) {
                spell(code, from);
                if (barsFrom(from, rule) != NONE) meeting++;
            }
            return meeting;
        }

        private boolean areAtOne() {
            for (int p = 1; p < piece.players; p++) if (spots[p] != spots[0]) return false;
            return true;
        }

        // All move at once: nobody's new spot may be seen by another before the bar is over.
        private void goOneBar(int rule) {
            int most = rule == 2 || rule == 4 ? fullestSpot() : 0;
            int low = lowestSpot(), high = highestSpot();
            for (int p = 0; p < piece.players; p++) {
                switch (rule) {
                    case 1: next[p] = spots[0]; break;
                    case 2: next[p] = most; break;
                    case 3: next[p] = stepTowards(spots[p], spots[(p + 1) % piece.players]); break;
                    case 4: next[p] = stepTowards(spots[p], most); break;
                    case 5: next[p] = drawnIn(spots[p], low, high); break;
                    default: next[p] = spots[p]; break;
                }
            }
            System.arraycopy(next, 0, spots, 0, spots.length);
        }

        private static int stepTowards(int spot, int goal) {
            if (spot < goal) return spot + 1;
            return spot > goal ? spot - 1 : spot;
        }

        private static int drawnIn(int spot, int low, int high) {
            if (low == high) return spot;
            if (spot == low) return spot + 1;
            return spot == high ? spot - 1 : spot;
        }

        private int lowestSpot() {
            int low = FARTHEST;
            for (int p = 0; p < piece.players; p++) low = Math.min(low, spots[p]);
            return low;
        }

        private int highestSpot() {
            int high = -FARTHEST;
            for (int p = 0; p < piece.players; p++) high = Math.max(high, spots[p]);
            return high;
        }

        private int fullestSpot() {
            int fullest = 0, most = 0;
            for (int spot = -FARTHEST; spot <= FARTHEST; spot++) {
                int there = 0;
                for (int p = 0; p < piece.players; p++) if (spots[p] == spot) there++;
                if (there > most) {
                    most = there;
                    fullest = spot;
                }
            }
            return fullest;
        }
    }
}
