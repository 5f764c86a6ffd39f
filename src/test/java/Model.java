import java.util.ArrayList;
import java.util.Arrays;
import java.util.HashSet;
import java.util.List;
import java.util.Set;
import java.util.regex.Matcher;
import java.util.regex.Pattern;

/**
 * The document once more, written another way (lists, kept states, patterns) and without care for
 * speed or room, so that the class can be held against it.
 */
final class Model {
    static final int BAD = -1, FULL = -2, FINDING = -3, STATE = -4, NONE = -9;

    /** All that one DEED can change. */
    private static final class Stand {
        int at, start;
        int[] outs;
        List<Integer> heard = new ArrayList<>();

        Stand(int players) {
            outs = new int[players];
        }

        Stand twin() {
            Stand twin = new Stand(outs.length);
            twin.at = at;
            twin.start = start;
            twin.outs = outs.clone();
            twin.heard.addAll(heard);
            return twin;
        }
    }

    private final int[][] rows = new int[6][];
    private final byte[][] texts = new byte[4][];
    private int players = 0;
    private final List<String> piece = new ArrayList<>();
    private List<Stand> stands = new ArrayList<>(List.of(new Stand(0)));
    private final List<List<Stand>> kept = new ArrayList<>(Arrays.asList(null, null, null));
    private int asked = 0, finding = 0;
    private long upper = 0, lower = 1;
    private final int[] findings = new int[6];

    private int find(int f) {
        finding = f;
        findings[f]++;
        return FINDING;
    }

    private int tell(int told, int answer) {
        asked = told;
        return answer;
    }

    private static boolean within(int i, int n) {
        return 0 <= i && i < n;
    }

    // ---- 1

    int row(int r, int n) {
        if (!within(r, 6) || n > 40) return BAD;
        if (n < 0) return find(5);
        rows[r] = new int[n];
        return n;
    }

    int lay(int r, int i, int v) {
        int answer = at(r, i);
        if (answer == 1) rows[r][i] = v;
        return answer;
    }

    int at(int r, int i) {
        if (!within(r, 6)) return BAD;
        if (rows[r] == null) return find(1);
        if (!within(i, rows[r].length)) return find(2);
        return tell(rows[r][i], 1);
    }

    int tear(int r) {
        if (!within(r, 6)) return BAD;
        if (rows[r] == null) return find(1);
        rows[r] = null;
        return 1;
    }

    int copy(int r, int i, int to, int j, int n) {
        if (!within(r, 6) || !within(to, 6)) return BAD;
        if (n < 0) return find(5);
        if (rows[r] == null || rows[to] == null) return find(1);
        if (i < 0 || j < 0 || rows[r].length - n < i || rows[to].length - n < j) return find(2);
        int[] taken = Arrays.copyOfRange(rows[r], i, i + n);
        for (int k = 0; k < n; k++) rows[to][j + k] = taken[k];
        return 1;
    }

    int mean(int r) {
        if (!within(r, 6)) return BAD;
        if (rows[r] == null) return find(1);
        if (rows[r].length == 0) return find(4);
        return tell((int) (Arrays.stream(rows[r]).asLongStream().sum() / rows[r].length), 1);
    }

    int text(int t, int n) {
        if (!within(t, 4) || n > 80) return BAD;
        if (n < 0) return find(5);
        texts[t] = " ".repeat(n).getBytes(java.nio.charset.StandardCharsets.ISO_8859_1);
        return n;
    }

    int put(int t, int i, int v) {
        if (!within(t, 4)) return BAD;
        if (texts[t] == null) return find(1);
        if (!within(i, texts[t].length)) return find(2);
        int was = texts[t][i];
        texts[t][i] = (byte) v;
        return was + 1000;
    }

    private static final Pattern[] PIECES = {
        Pattern.compile(" *q2 *(?:[bulgtc][0-9]{2} *){1,14}"),
        Pattern.compile(" *q3 *(?:[bulgtc][0-9]{3} *){1,14}"),
        Pattern.compile(" *q4 *(?:[bulgtc][0-9]{4} *){1,14}"),
    };

    private static boolean canGoOn(String start) {
        for (Pattern pattern : PIECES) {
            Matcher matcher = pattern.matcher(start);
            if (matcher.matches() || matcher.hitEnd()) return true;
        }
        return false;
    }

    private static int faultIn(String text) {
        for (int i = 1; i <= text.length(); i++) if (!canGoOn(text.substring(0, i))) return i - 1;
        for (Pattern pattern : PIECES) if (pattern.matcher(text).matches()) return NONE;
        return text.length();
    }

    private String textOf(int t) {
        return new String(texts[t], java.nio.charset.StandardCharsets.ISO_8859_1);
    }

    int fault(int t) {
        if (!within(t, 4)) return BAD;
        if (texts[t] == null) return find(1);
        return faultIn(textOf(t));
    }

    int piece(int t) {
        if (!within(t, 4)) return BAD;
        if (texts[t] == null) return find(1);
        if (faultIn(textOf(t)) != NONE) return STATE;
        String signs = textOf(t).replace(" ", "");
        players = signs.charAt(1) - '0';
        piece.clear();
        for (int i = 2; i < signs.length(); i += players + 1) piece.add(signs.substring(i, i + players + 1));
        stands = new ArrayList<>(List.of(new Stand(players)));
        for (int k = 0; k < 3; k++) kept.set(k, null);
        return piece.size();
    }

    private char letterOf(int x) {
        return piece.get(x).charAt(0);
    }

    private boolean isOf(int x, int kind) {
        return new String[] {"bulgtc", "ug", "lt", "g", "t", "c"}[kind].indexOf(letterOf(x)) >= 0;
    }

    /** The NOTE that sounds, or null. */
    private Integer sound(int p, int x) {
        if (!within(x, piece.size())) return null;
        int note = piece.get(x).charAt(p + 1) - '0';
        return note < 8 ? note : null;
    }

    private int heardOf(int x, char letter, int[] outs) {
        int bits = 0, pair = 0;
        for (int a = 0; a < players; a++) {
            for (int b = a + 1; b < players; b++, pair++) {
                Integer one = sound(a, x + outs[a]), other = sound(b, x + outs[b]);
                if (one == null || other == null) continue;
                int apart = Math.abs(one - other);
                boolean clash = letter == 'b' && (apart == 1 || apart == 6)
                        || (letter == 'u' || letter == 'g') && apart > 0
                        || letter == 'c' && apart == 1;
                if (clash) bits += 1 << pair;
            }
        }
        return bits;
    }

    private int heardOf(int x, int[] outs) {
        return heardOf(x, letterOf(x), outs);
    }

    private int[] alone(int p, int d) {
        int[] outs = new int[players];
        if (d != 0) outs[p] = d;
        return outs;
    }

    private int ofPlace(int x, int what) {
        if (what == 0) return "bulgtc".indexOf(letterOf(x));
        if (what == 1) return heardOf(x, new int[players]);
        int sounding = 0;
        for (int p = 0; p < players; p++) if (sound(p, x) != null) sounding++;
        return sounding;
    }

    int place(int x, int what) {
        if (!within(x, piece.size()) || !within(what, 3)) return BAD;
        return tell(ofPlace(x, what), 1);
    }

    int note(int p, int x) {
        if (!within(p, players) || !within(x, piece.size())) return BAD;
        return piece.get(x).charAt(p + 1) - '0';
    }

    int mark(int x, int kind) {
        if (!within(x, piece.size()) || kind < 1 || kind > 5) return BAD;
        if (!isOf(x, kind)) return find(3);
        Set<Integer> sounds = new HashSet<>();
        int same = 0, others = 0;
        for (int p = 0; p < players; p++) {
            Integer sound = sound(p, x);
            if (sound != null) sounds.add(sound);
            if (sound != null && sound.equals(sound(p, x - 1))) same++;
        }
        for (int y = 0; y < x; y++) if (kind == 2 ? !isOf(y, 2) : isOf(y, 3)) others++;
        if (kind == 1) return sounds.size() <= 1 ? 1 : 0;
        if (kind == 2 || kind == 3) return others;
        return kind == 4 ? same : Integer.bitCount(heardOf(x, 'b', new int[players]));
    }

    // ---- 2

    private Stand now() {
        return stands.get(stands.size() - 1);
    }

    private boolean full() {
        return stands.size() > 40;
    }

    private Stand deed() {
        stands.add(now().twin());
        return now();
    }

    private boolean over() {
        return now().at >= piece.size();
    }

    private int playOne() {
        Stand stand = deed();
        int heard = heardOf(stand.at, stand.outs);
        stand.heard.add(heard);
        stand.at++;
        return heard;
    }

    int play() {
        if (over()) return STATE;
        return full() ? FULL : playOne();
    }

    int slip(int p, int d) {
        if (!within(p, players) || Math.abs((long) d) != 1) return BAD;
        if (Math.abs(now().outs[p] + d) > 2) return STATE;
        if (full()) return FULL;
        return (deed().outs[p] += d) + 2;
    }

    int jump(int p, int to) {
        if (!within(p, players) || !within(to, players) || p == to) return BAD;
        if (full()) return FULL;
        int[] outs = deed().outs;
        int by = outs[to] - outs[p];
        outs[p] = outs[to];
        return by + 4;
    }

    private List<Integer> letters() {
        List<Integer> letters = new ArrayList<>();
        for (int x = 0; x < piece.size(); x++) if (letterOf(x) == 'g') letters.add(x);
        return letters;
    }

    int anew(int letter) {
        if (!within(letter, letters().size())) return BAD;
        if (full()) return FULL;
        Stand stand = deed();
        stand.at = letters().get(letter);
        stand.start = stand.at;
        stand.outs = new int[players];
        stand.heard.clear();
        return stand.at;
    }

    int undo(int n) {
        int deeds = stands.size() - 1;
        if (n < 0 || n > deeds) return BAD;
        stands = new ArrayList<>(stands.subList(0, n + 1));
        return deeds - n;
    }

    int here() {
        if (piece.isEmpty()) return STATE;
        return tell(now().heard.size(), now().at);
    }

    int out(int p) {
        return within(p, players) ? now().outs[p] + 2 : BAD;
    }

    int hear() {
        return over() ? STATE : heardOf(now().at, now().outs);
    }

    int heard(int r) {
        if (!within(r, 6)) return BAD;
        rows[r] = now().heard.stream().mapToInt(v -> v).toArray();
        return rows[r].length;
    }

    int image(int k) {
        if (!within(k, 3)) return BAD;
        if (piece.isEmpty()) return STATE;
        kept.set(k, new ArrayList<>(stands));
        return stands.size() - 1;
    }

    int restore(int k) {
        if (!within(k, 3)) return BAD;
        if (kept.get(k) == null) return find(1);
        stands = new ArrayList<>(kept.get(k));
        return stands.size() - 1;
    }

    // ---- 3

    private List<int[]> allOuts() {
        List<int[]> all = new ArrayList<>(List.of(new int[0]));
        for (int p = 0; p < players; p++) {
            List<int[]> longer = new ArrayList<>();
            for (int d = -2; d <= 2; d++) {
                for (int[] outs : all) {
                    int[] more = Arrays.copyOf(outs, p + 1);
                    more[p] = d;
                    longer.add(more);
                }
            }
            all = longer;
        }
        return all;
    }

    private static int code(int[] outs) {
        int code = 0;
        for (int p = outs.length - 1; p >= 0; p--) code = 5 * code + outs[p] + 2;
        return code;
    }

    private static int weight(int[] outs) {
        int weight = 1;
        for (int out : outs) weight *= out == 0 ? 4 : Math.abs(out) == 1 ? 2 : 1;
        return weight;
    }

    private boolean fit(int[] outs) {
        for (int i = 0; i < now().heard.size(); i++) {
            if (heardOf(now().start + i, outs) != now().heard.get(i)) return false;
        }
        return true;
    }

    private List<int[]> fitting() {
        List<int[]> fitting = new ArrayList<>();
        for (int[] outs : allOuts()) if (fit(outs)) fitting.add(outs);
        return fitting;
    }

    private int chance(long part, long whole) {
        long divisor = java.math.BigInteger.valueOf(part).gcd(java.math.BigInteger.valueOf(whole)).longValue();
        upper = part / divisor;
        lower = whole / divisor;
        return 1;
    }

    int fits() {
        if (piece.isEmpty()) return STATE;
        List<int[]> fitting = fitting();
        return tell(fitting.isEmpty() ? NONE : code(fitting.get(0)), fitting.size());
    }

    int odds(int p) {
        if (!within(p, players)) return BAD;
        long part = 0, whole = 0;
        for (int[] outs : fitting()) {
            whole += weight(outs);
            if (outs[p] != 0) part += weight(outs);
        }
        return whole == 0 ? find(4) : chance(part, whole);
    }

    int self(int p) {
        if (!within(p, players)) return BAD;
        long part = 0, whole = 0;
        for (int[] outs : fitting()) {
            if (outs[p] != 0) continue;
            whole += weight(outs);
            if (!Arrays.equals(outs, new int[players])) part += weight(outs);
        }
        return whole == 0 ? find(4) : chance(part, whole);
    }

    int who() {
        if (piece.isEmpty()) return STATE;
        List<int[]> fitting = fitting();
        if (fitting.isEmpty()) return find(4);
        int who = NONE, by = 0;
        long most = 0;
        for (int p = 0; p < players; p++) {
            long[] sums = new long[5];
            for (int[] outs : fitting) sums[outs[p] + 2] += weight(outs);
            long out = sums[0] + sums[1] + sums[3] + sums[4];
            if (out <= most) continue;
            most = out;
            who = p;
            by = 0;
            for (int d : new int[] {1, 3, 4}) if (sums[d] > sums[by]) by = d;
        }
        return who == NONE ? NONE : tell(by, who);
    }

    int likely() {
        if (piece.isEmpty()) return STATE;
        int[] likely = null;
        for (int[] outs : fitting()) if (likely == null || weight(outs) > weight(likely)) likely = outs;
        return likely == null ? NONE : code(likely);
    }

    int began() {
        if (piece.isEmpty()) return STATE;
        int ways = 0, bits = 0;
        for (int p = 0; p < players; p++) {
            for (int d : new int[] {-1, 1}) {
                for (int since = 0; since < now().heard.size(); since++) {
                    boolean so = true;
                    for (int i = 0; i < now().heard.size(); i++) {
                        int heard = heardOf(now().start + i, alone(p, i < since ? 0 : d));
                        so &= heard == now().heard.get(i);
                    }
                    if (!so) continue;
                    ways++;
                    bits |= 1 << now().start + since;
                }
            }
        }
        return tell(bits, ways);
    }

    // ---- 4

    int tells(int x) {
        if (!within(x, piece.size())) return BAD;
        Set<Integer> things = new HashSet<>();
        for (int[] outs : allOuts()) things.add(heardOf(x, outs));
        return things.size();
    }

    int best() {
        if (piece.isEmpty()) return STATE;
        int best = 0;
        for (int x = 1; x < piece.size(); x++) if (tells(x) > tells(best)) best = x;
        return tell(tells(best), best);
    }

    int hides(int p, int d) {
        if (!within(p, players) || d < -2 || d > 2 || d == 0) return BAD;
        int bits = 0;
        for (int x = 0; x < piece.size(); x++) {
            if (heardOf(x, alone(p, d)) == heardOf(x, new int[players])) bits |= 1 << x;
        }
        return bits;
    }

    int fewest() {
        if (piece.isEmpty()) return STATE;
        List<Integer> hiding = new ArrayList<>();
        for (int p = 0; p < players; p++) {
            hiding.add(hides(p, -1));
            hiding.add(hides(p, 1));
        }
        for (int size = 1; size <= 3; size++) {
            for (int set = 0; set < 1 << piece.size(); set++) {
                if (Integer.bitCount(set) != size) continue;
                int some = set;
                if (hiding.stream().allMatch(h -> (some | h) != h)) return tell(set, size);
            }
        }
        return NONE;
    }

    int modern() {
        int bits = 0, quiet = 0;
        for (int x = 0; x < piece.size(); x++) {
            if (heardOf(x, new int[players]) == 0) continue;
            bits |= 1 << x;
            if (heardOf(x, alone(0, -1)) == 0) quiet++;
        }
        return tell(quiet, bits);
    }

    // ---- 5

    private static int[] bar(int[] from, int rule) {
        int[] to = from.clone();
        int[] sorted = from.clone();
        Arrays.sort(sorted);
        int low = sorted[0], high = sorted[sorted.length - 1];
        int most = low;
        for (int spot : sorted) if (crowd(from, spot) > crowd(from, most)) most = spot;
        for (int p = 0; p < from.length; p++) {
            int next = from[p == from.length - 1 ? 0 : p + 1];
            if (rule == 1) to[p] = from[0];
            if (rule == 2) to[p] = most;
            if (rule == 3) to[p] += Integer.signum(next - from[p]);
            if (rule == 4) to[p] += Integer.signum(most - from[p]);
            if (rule == 5 && low != high && from[p] == low) to[p]++;
            if (rule == 5 && low != high && from[p] == high) to[p]--;
        }
        return to;
    }

    private static long crowd(int[] spots, int spot) {
        return Arrays.stream(spots).filter(s -> s == spot).count();
    }

    /** Bars and where, or null. */
    private static int[] meeting(int[] from, int rule) {
        int[] spots = from;
        for (int bars = 0; bars <= 20; bars++) {
            if (crowd(spots, spots[0]) == spots.length) return new int[] {bars, spots[0]};
            spots = bar(spots, rule);
        }
        return null;
    }

    int together(int rule) {
        if (!within(rule, 6)) return BAD;
        if (piece.isEmpty()) return STATE;
        int[] meeting = meeting(now().outs, rule);
        return meeting == null ? NONE : tell(meeting[1] + 2, meeting[0]);
    }

    int rule() {
        if (piece.isEmpty()) return STATE;
        int best = -1, bars = 99;
        for (int rule = 0; rule < 6; rule++) {
            int[] meeting = meeting(now().outs, rule);
            if (meeting == null || meeting[0] >= bars) continue;
            best = rule;
            bars = meeting[0];
        }
        return tell(bars, best);
    }

    int signs(int rule) {
        if (!within(rule, 6)) return BAD;
        if (piece.isEmpty()) return STATE;
        return (int) allOuts().stream().filter(outs -> meeting(outs, rule) != null).count();
    }

    // ---- 6

    int line() {
        if (over()) return STATE;
        int here = now().at, end = piece.size(), last = 0, more = 0;
        for (int x : letters()) {
            if (x <= here) last = x;
            if (x > here) end = Math.min(end, x);
        }
        for (int x = here; x < end; x++) {
            more += Integer.bitCount(heardOf(x, now().outs)) - Integer.bitCount(heardOf(x, new int[players]));
        }
        return tell(here - last, Math.max(0, more));
    }

    int letter() {
        if (piece.isEmpty()) return STATE;
        List<Integer> letters = letters();
        if (letters.isEmpty()) return NONE;
        for (int way = 0; ; way++) {
            for (int n = 0; n < letters.size(); n++) {
                if (Math.abs(letters.get(n) - now().at) == way) return tell(way, n);
            }
        }
    }

    int aloud() {
        if (piece.isEmpty()) return STATE;
        List<int[]> fitting = fitting();
        if (fitting.isEmpty()) return find(4);
        int[] left = new int[players];
        for (int[] outs : fitting) for (int p = 0; p < players; p++) if (outs[p] == 0) left[p]++;
        int fewest = Arrays.stream(left).min().getAsInt();
        int who = 0;
        while (left[who] != fewest) who++;
        return tell(fewest, who);
    }

    // ---- 7

    int lots(int n, int seed) {
        if (n < 1 || n > 20 || seed < 1 || seed == Integer.MAX_VALUE) return BAD;
        if (over()) return STATE;
        java.math.BigInteger lot = java.math.BigInteger.valueOf(seed);
        int played = 0;
        while (played < n && !over() && !full()) {
            lot = lot.multiply(java.math.BigInteger.valueOf(48271)).mod(java.math.BigInteger.valueOf(2147483647));
            int number = lot.intValueExact();
            if ((number >> 6) % (letterOf(now().at) == 't' ? 2 : 4) == 0) {
                slip(number % players, (number >> 10) % 2 != 0 ? 1 : -1);
            }
            if (full()) break;
            playOne();
            played++;
        }
        return played;
    }

    // ---- 8

    int asked() {
        return asked;
    }

    long upper() {
        return upper;
    }

    long lower() {
        return lower;
    }

    private static int there(Object[] things) {
        return (int) Arrays.stream(things).filter(t -> t != null).count();
    }

    int count(int what) {
        int longs = 0;
        for (int x = 0; x < piece.size(); x++) if (isOf(x, 2)) longs++;
        int out = (int) Arrays.stream(now().outs).filter(o -> o != 0).count();
        int[] counts = {players, piece.size(), stands.size() - 1, out, letters().size(), longs,
            there(rows), there(texts), there(kept.toArray())};
        return within(what, 9) ? counts[what] : BAD;
    }

    int finding() {
        return finding;
    }

    int findings(int f) {
        return f >= 1 && f <= 5 ? findings[f] : BAD;
    }

    long digest() {
        List<Integer> values = new ArrayList<>();
        for (int what = 0; what < 9; what++) values.add(count(what));
        values.add(now().at);
        for (int x = 0; x < piece.size(); x++) for (int what = 0; what < 3; what++) values.add(ofPlace(x, what));
        for (int out : now().outs) values.add(out + 2);
        values.addAll(now().heard);
        for (List<Stand> one : kept) values.add(one == null ? -1 : one.size() - 1);
        for (int[] row : rows) {
            values.add(row == null ? -1 : row.length);
            if (row != null) for (int v : row) values.add(v);
        }
        for (byte[] text : texts) {
            values.add(text == null ? -1 : text.length);
            if (text != null) for (int v : text) values.add(v);
        }
        long h = 17;
        for (int v : values) h = 31 * h + v;
        return h;
    }
}
