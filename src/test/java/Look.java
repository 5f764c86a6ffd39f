import java.util.ArrayList;
import java.util.List;

/** All that can be seen of an object; it is used up by looking, so each look takes an object of its own. */
final class Look {
    static final int FINDINGS = 6, TOLD_ON_THE_WAY = FINDINGS + 3;

    private final BarBehind x;
    private final List<String> names = new ArrayList<>();
    private final List<Long> answers = new ArrayList<>();

    Look(BarBehind x) {
        this.x = x;
        findings();
        told();
        state("now");
        belief();
        chances();
        telling();
        gathering();
        notes();
        undone("now");
        for (int k = 0; k < 3; k++) kept(k);
    }

    int size() {
        return names.size();
    }

    String name(int i) {
        return names.get(i);
    }

    long answer(int i) {
        return answers.get(i);
    }

    private void see(String name, long answer) {
        names.add(name);
        answers.add(answer);
    }

    /** finding() and findings() come first: only these may change by what is refused. */
    private void findings() {
        see("finding()", x.finding());
        for (int f = 1; f <= 5; f++) see("findings(" + f + ")", x.findings(f));
    }

    private void told() {
        see("asked()", x.asked());
        see("upper()", x.upper());
        see("lower()", x.lower());
    }

    private void state(String when) {
        see("digest() " + when, x.digest());
        see("here() " + when, x.here());
        see("asked() behind here() " + when, x.asked());
    }

    private void belief() {
        see("hear()", x.hear());
        see("fits()", x.fits());
        see("asked() behind fits()", x.asked());
        see("likely()", x.likely());
        see("began()", x.began());
        see("asked() behind began()", x.asked());
        see("line()", x.line());
        see("letter()", x.letter());
        see("asked() behind letter()", x.asked());
    }

    private void chances() {
        int players = x.count(0);
        for (int p = 0; p < players; p++) {
            see("odds(" + p + ")", x.odds(p));
            see("upper() behind odds(" + p + ")", x.upper());
            see("lower() behind odds(" + p + ")", x.lower());
            see("self(" + p + ")", x.self(p));
            see("upper() behind self(" + p + ")", x.upper());
        }
        see("who()", x.who());
        see("asked() behind who()", x.asked());
        see("aloud()", x.aloud());
        see("asked() behind aloud()", x.asked());
    }

    private void telling() {
        int places = x.count(1);
        for (int i = 0; i < places; i++) see("tells(" + i + ")", x.tells(i));
        see("best()", x.best());
        see("hides(1, -1)", x.hides(1, -1));
        see("fewest()", x.fewest());
        see("asked() behind fewest()", x.asked());
        see("modern()", x.modern());
        see("asked() behind modern()", x.asked());
    }

    private void gathering() {
        for (int rule = 0; rule < 6; rule++) {
            see("together(" + rule + ")", x.together(rule));
            see("signs(" + rule + ")", x.signs(rule));
        }
        see("rule()", x.rule());
    }

    /** The NOTES, which digest() does not tell. */
    private void notes() {
        int players = x.count(0), places = x.count(1);
        for (int p = 0; p < players; p++) {
            for (int i = 0; i < places; i++) see("note(" + p + ", " + i + ")", x.note(p, i));
        }
    }

    /** The DEEDS, which digest() does not tell either: each state on the way back. */
    private void undone(String when) {
        for (int n = x.count(2) - 1; n >= 0; n--) {
            see("undo(" + n + ") " + when, x.undo(n));
            see("digest() behind undo(" + n + ") " + when, x.digest());
        }
    }

    private void kept(int k) {
        int deeds = x.restore(k);
        see("restore(" + k + ")", deeds);
        if (deeds < 0) return;
        state("restored from " + k);
        if (deeds < 12) undone("restored from " + k);
    }
}
