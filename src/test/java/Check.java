import java.util.function.LongSupplier;

/** Counts what is not as due, and sees that what is refused leaves the object as it was. */
final class Check {
    private final String name;
    private int wrong = 0;

    Check(String name) {
        this.name = name;
    }

    void due(String call, long got, long want) {
        if (got == want) return;
        wrong++;
        System.out.println(name + ": " + call + " answered " + got + ", due is " + want);
    }

    /** The answer and what asked() tells behind it. */
    void asked(BarBehind x, String call, long got, long want, long wantAsked) {
        due(call, got, want);
        due("asked() behind " + call, x.asked(), wantAsked);
    }

    void chance(BarBehind x, String call, long got, long upper, long lower) {
        due(call, got, 1);
        due("upper() behind " + call, x.upper(), upper);
        due("lower() behind " + call, x.lower(), lower);
    }

    /** Refused with BAD, FULL, STATE, or answered NONE: nothing at all has changed. */
    void refused(BarBehind x, String call, LongSupplier act, long want) {
        long[] before = state(x);
        due(call, act.getAsLong(), want);
        same(call, before, state(x), 0);
    }

    /** Refused by a FINDING: nothing but finding() and findings() has changed. */
    void found(BarBehind x, String call, LongSupplier act, int finding) {
        long[] before = state(x);
        due(call, act.getAsLong(), BarBehind.FINDING);
        long[] after = state(x);
        due("finding() behind " + call, x.finding(), finding);
        before[0] = finding;
        before[finding]++;
        same(call, before, after, 0);
    }

    private void same(String call, long[] before, long[] after, int from) {
        for (int i = from; i < before.length; i++) {
            due("part " + i + " of the state behind " + call, after[i], before[i]);
        }
    }

    private static long[] state(BarBehind x) {
        return new long[] {
            x.finding(), x.findings(1), x.findings(2), x.findings(3), x.findings(4), x.findings(5),
            x.asked(), x.upper(), x.lower(), x.digest()
        };
    }

    void end() {
        System.out.println(wrong == 0 ? name + ": as due" : name + ": " + wrong + " not as due");
        if (wrong != 0) System.exit(1);
    }

    /** Writes a TEXT of just these signs. */
    static void write(BarBehind x, int t, String signs) {
        x.text(t, signs.length());
        for (int i = 0; i < signs.length(); i++) x.put(t, i, signs.charAt(i));
    }

    /** A new object with this PIECE, by TEXT 0. */
    static BarBehind of(String signs) {
        BarBehind x = new BarBehind();
        write(x, 0, signs);
        x.piece(0);
        return x;
    }
}
