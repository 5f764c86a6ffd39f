import java.io.IOException;

/** Holds single sentences of the document: what is not as due is told with the sentence that it breaks. */
final class Sentences {
    static final int BAD = -1, FULL = -2, FINDING = -3, STATE = -4, SPENT = -6, NONE = -9;
    static final int NOTHING = 1, BEYOND = 2, UNLIKE = 3, NOUGHT = 4, SIZE = 5;
    static final int LEAST = Integer.MIN_VALUE, MOST = Integer.MAX_VALUE;

    interface Call {
        long on(BarBehind x);
    }

    private final Document document;
    private String sentence = "";
    private int held = 0, checks = 0, wrong = 0;

    Sentences() throws IOException {
        document = Document.isThere() ? new Document() : null;
    }

    /** From here on this sentence is held. */
    void says(String section, String words) {
        closeSentence();
        sentence = section + ", '" + words + "'";
        held++;
        checks = 0;
        if (document != null && !document.has(section, words)) fail("the document does not say so");
    }

    private void closeSentence() {
        if (held > 0 && checks == 0) fail("nothing is tested");
    }

    private void fail(String what) {
        wrong++;
        System.out.println(sentence + ": " + what);
    }

    void is(String what, long got, long want) {
        checks++;
        if (got != want) fail(what + " answered " + got + ", due is " + want);
    }

    void due(Way way, String call, Call act, long want) {
        is(call, act.on(way.made()), want);
    }

    /** The answer, and what asked() tells behind it. */
    void told(Way way, String call, Call act, long want, long wantAsked) {
        BarBehind x = way.made();
        is(call, act.on(x), want);
        is("asked() behind " + call, x.asked(), wantAsked);
    }

    /** What asked() tells behind a call that answers 1. */
    void tells(Way way, String call, Call act, long wantAsked) {
        told(way, call, act, 1, wantAsked);
    }

    void chance(Way way, String call, Call act, long upper, long lower) {
        BarBehind x = way.made();
        is(call, act.on(x), 1);
        is("upper() behind " + call, x.upper(), upper);
        is("lower() behind " + call, x.lower(), lower);
    }

    /** Refused with BAD, FULL, STATE, or answered NONE: nothing at all has changed. */
    void refused(Way way, String call, Call act, long want) {
        BarBehind x = way.made();
        is(call, act.on(x), want);
        same(call, new Look(way.made()), new Look(x), 0);
    }

    /** Refused by a FINDING: nothing but finding() and findings() has changed. */
    void found(Way way, String call, Call act, int finding) {
        BarBehind x = way.made();
        is(call, act.on(x), FINDING);
        Look before = new Look(way.made()), after = new Look(x);
        is("finding() behind " + call, after.answer(0), finding);
        for (int f = 1; f <= 5; f++) {
            is("findings(" + f + ") behind " + call, after.answer(f), before.answer(f) + (f == finding ? 1 : 0));
        }
        same(call, before, after, Look.FINDINGS);
    }

    /** Two ways lead to objects of which all is alike that can be seen. */
    void alike(String what, Way one, Way other) {
        same(what, new Look(other.made()), new Look(one.made()), 0);
    }

    /** The same but for what was found and told on the way: Look sees that first. */
    void alikeFromHereOn(String what, Way one, Way other) {
        same(what, new Look(other.made()), new Look(one.made()), Look.TOLD_ON_THE_WAY);
    }

    private void same(String call, Look before, Look after, int from) {
        is("how much is seen behind " + call, after.size(), before.size());
        for (int i = from; i < Math.min(before.size(), after.size()); i++) {
            is(after.name(i) + " behind " + call, after.answer(i), before.answer(i));
        }
    }

    void end() {
        closeSentence();
        sentence = "the document";
        if (document == null) System.out.println("no document is here to hold the sentences against");
        else for (String words : document.untested()) fail("no test for " + words);
        System.out.println(held + " sentences, " + (wrong == 0 ? "as due" : wrong + " not as due"));
        if (wrong != 0) System.exit(1);
    }
}
