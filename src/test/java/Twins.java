import java.util.Arrays;

/** The class and the Model side by side: each call is made on both, up to the 512 that are promised. */
final class Twins {
    static final int LOOKS = 10;
    private static final int MOST_CALLS = 512;

    private final Check c;
    private final BarBehind x = new BarBehind();
    private final Model m = new Model();
    private final StringBuilder told = new StringBuilder();
    private int calls = 0;
    private boolean wrong = false;

    Twins(Check c) {
        this.c = c;
    }

    boolean hasRoomFor(int more) {
        return calls + more <= MOST_CALLS;
    }

    boolean areAtOdds() {
        return wrong;
    }

    /** All calls so far. */
    String told() {
        return told.toString();
    }

    long call(String name, int... a) {
        return call(Calls.numberOf(name), a);
    }

    long call(int number, int... a) {
        String text = Calls.NAMES[number] + Arrays.toString(Arrays.copyOf(a, Calls.ARGUMENTS[number]));
        told.append("\n  ").append(text);
        return same(text, Calls.on(x, number, a), Calls.on(m, number, a));
    }

    private long same(String call, long got, long want) {
        calls++;
        if (got != want) wrong = true;
        c.due(call, got, want);
        return got;
    }

    void write(int t, String signs) {
        told.append("\n  text ").append(t).append(" '").append(signs).append("'");
        same("text(" + t + ", " + signs.length() + ")", x.text(t, signs.length()), m.text(t, signs.length()));
        for (int i = 0; i < signs.length(); i++) {
            same("put(" + t + ", " + i + ", ..)", x.put(t, i, signs.charAt(i)), m.put(t, i, signs.charAt(i)));
        }
    }

    /** Takes as many calls as LOOKS says. */
    void look() {
        same("digest()", x.digest(), m.digest());
        same("asked()", x.asked(), m.asked());
        same("upper()", x.upper(), m.upper());
        same("lower()", x.lower(), m.lower());
        same("finding()", x.finding(), m.finding());
        for (int f = 1; f <= 5; f++) same("findings(" + f + ")", x.findings(f), m.findings(f));
    }
}
