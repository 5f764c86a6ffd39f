import java.util.Random;

/** Runs of calls by lots, each call held against the Model, with odd arguments among the others. */
public final class ModelTest {
    private static final int RUNS = 1200, MOST_OF_A_STEP = 1 + 84 + Twins.LOOKS;
    private static final int[] ODD = {
        Integer.MIN_VALUE, Integer.MAX_VALUE, -1, 41, 81, 1000, -128, 2147483646
    };
    private static final int PLAY = 13, SLIP = 14, PUT = 7, SIGNS = 37;
    private static final Check c = new Check("ModelTest");

    private final Random random;
    private final Twins twins = new Twins(c);

    private ModelTest(long seed) {
        random = new Random(seed);
    }

    public static void main(String[] args) {
        for (int run = 0; run < RUNS; run++) new ModelTest(run).go(run);
        c.end();
    }

    private void go(int run) {
        if (random.nextInt(8) > 0) write(0);
        // Looking takes calls of the object's: runs that look seldom come further.
        int seldom = new int[] {1, 4, 25}[run % 3];
        for (int i = 0; twins.hasRoomFor(MOST_OF_A_STEP) && !twins.areAtOdds(); i++) {
            if (random.nextInt(60) == 0) write(random.nextInt(4));
            step();
            if (i % seldom == 0) twins.look();
        }
        twins.look();
        if (twins.areAtOdds()) System.out.println("run " + run + ":" + twins.told());
    }

    private void write(int t) {
        String signs = pieceByLots();
        if (random.nextInt(4) == 0) signs = spoilt(signs);
        twins.write(t, signs);
        twins.call("fault", t);
        twins.call("piece", t);
    }

    private String pieceByLots() {
        int players = 2 + random.nextInt(3);
        int places = 1 + random.nextInt(random.nextInt(5) == 0 ? 16 : 12);
        int notes = 2 + random.nextInt(9);
        String letters = new String[] {"bulgtc", "bbuuggc", "u", "bg", "lt"}[random.nextInt(5)];
        StringBuilder signs = new StringBuilder(" ".repeat(random.nextInt(2))).append('q').append(players);
        for (int i = 0; i < places; i++) {
            if (random.nextInt(9) == 0) signs.append(' ');
            signs.append(letters.charAt(random.nextInt(letters.length())));
            int unison = random.nextInt(notes);
            boolean alike = random.nextInt(3) == 0;
            for (int p = 0; p < players; p++) signs.append(alike ? unison : random.nextInt(notes));
        }
        return signs.length() > 80 ? signs.substring(0, 80) : signs.toString();
    }

    private String spoilt(String signs) {
        StringBuilder other = new StringBuilder(signs);
        int i = random.nextInt(signs.length());
        switch (random.nextInt(3)) {
            case 0: other.setLength(i); break;
            case 1: other.setCharAt(i, (char) random.nextInt(256)); break;
            default: other.setCharAt(i, " q5b0lz".charAt(random.nextInt(7))); break;
        }
        return other.toString();
    }

    private int arg(int bound) {
        if (random.nextInt(40) == 0) return ODD[random.nextInt(ODD.length)];
        return random.nextInt(bound + 1) - (random.nextInt(12) == 0 ? 1 : 0);
    }

    private int value() {
        return random.nextInt(3) == 0 ? ODD[random.nextInt(ODD.length)] : random.nextInt();
    }

    private int step(int bound) {
        return random.nextInt(10) == 0 ? arg(3) : random.nextInt(2 * bound + 1) - bound;
    }

    private int chosen() {
        int lot = random.nextInt(20);
        if (lot < 4) return PLAY;
        if (lot < 6) return SLIP;
        return random.nextInt(Calls.NAMES.length);
    }

    private void step() {
        int call = chosen();
        // The texts of the pieces are not to be spoilt too often.
        if (call == PUT && random.nextInt(3) > 0) call = SIGNS;
        int[] a = {arg(6), arg(6), arg(6), arg(6), arg(6)};
        if (call == 0 || call == 6) a[1] = arg(random.nextInt(2) == 0 ? 6 : 82);
        if (call == 1 || call == 7) a[2] = value();
        if (call == 10 || call == 11 || call == 12 || call == 30) a[call == 11 ? 1 : 0] = arg(14);
        if (call == SLIP) a[1] = step(1);
        if (call == 17) a[0] = arg(41);
        if (call == 32) a[1] = step(2);
        if (call == 41) {
            a[0] = arg(21);
            a[1] = random.nextInt(9) == 0 ? arg(2) : random.nextInt() & Integer.MAX_VALUE;
        }
        if (call == 45) a[0] = arg(9);
        twins.call(call, a);
    }
}
