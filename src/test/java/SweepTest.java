import java.util.function.Consumer;

/** Each call with each odd number in each place of its arguments, in states at the edge, held against the Model. */
public final class SweepTest {
    private static final int[] ODD = oddNumbers();
    private static final int[] FEW = {Integer.MIN_VALUE, -2, -1, 0, 1, 2, 3, 5, 6, 39, 40, 41, Integer.MAX_VALUE};
    private static final Check c = new Check("SweepTest");

    private final Consumer<Twins> way;
    private Twins twins;
    private boolean changed = true;

    private SweepTest(Consumer<Twins> way) {
        this.way = way;
    }

    public static void main(String[] args) {
        for (Consumer<Twins> way : ways()) new SweepTest(way).sweep();
        c.end();
    }

    private static int[] oddNumbers() {
        int[] far = {Integer.MIN_VALUE, Integer.MIN_VALUE + 1, -1000, -129, -128, -41, -40, 79, 80, 81, 127, 128, 255, 256,
            1000, 65536, Integer.MAX_VALUE - 1, Integer.MAX_VALUE};
        int[] all = java.util.Arrays.copyOf(far, far.length + 50);
        for (int i = 0; i < 50; i++) all[far.length + i] = i - 4;
        return all;
    }

    private static java.util.List<Consumer<Twins>> ways() {
        Consumer<Twins> bare = t -> t.call("row", 1, 3);
        Consumer<Twins> rows = bare.andThen(t -> {
            t.call("lay", 1, 2, Integer.MIN_VALUE);
            t.call("row", 2, 0);
            t.call("row", 5, 40);
            t.write(1, "q2 b0");
            t.call("text", 2, 0);
            t.write(0, "q3 b012 g345 t345 l000 u808 c061 g222");
            t.call("piece", 0);
        });
        Consumer<Twins> playing = rows.andThen(t -> {
            t.call("play");
            t.call("slip", 1, -1);
            t.call("slip", 1, -1);
            t.call("image", 1);
            t.call("play");
            t.call("jump", 2, 1);
            t.call("slip", 0, 1);
            t.call("slip", 0, 1);
            t.call("odds", 0);
            t.call("at", 1, 2);
        });
        Consumer<Twins> over = playing.andThen(t -> t.call("lots", 20, 77));
        Consumer<Twins> full = playing.andThen(t -> {
            for (int i = 0; i < 40; i++) t.call("jump", 2, 1);
        });
        Consumer<Twins> largest = t -> {
            t.write(3, "q4g0123g1234g2345g3456g4567g5670g6701g7012l0000t0000u9999b0167c0167g3333");
            t.call("piece", 3);
            for (int i = 0; i < 13; i++) t.call("play");
        };
        return java.util.List.of(t -> { }, bare, rows, playing, over, full, largest);
    }

    private void sweep() {
        for (int call = 0; call < Calls.NAMES.length; call++) {
            switch (Calls.ARGUMENTS[call]) {
                case 0: tried(call); break;
                case 1: for (int a : ODD) tried(call, a); break;
                case 2: for (int a : ODD) for (int b : ODD) tried(call, a, b); break;
                case 3: for (int a : ODD) for (int b : ODD) tried(call, a, b, -129); break;
                default: copied(call); break;
            }
        }
    }

    private void copied(int call) {
        for (int r = -1; r <= 6; r++) {
            for (int to = -1; to <= 6; to++) {
                for (int i : FEW) {
                    for (int j : new int[] {-1, 0, 1, 3, 39, 40}) for (int n : FEW) tried(call, r, i, to, j, n);
                }
            }
        }
    }

    /** What is refused leaves the state at its edge, so that the next call can have the same objects. */
    private void tried(int call, int... a) {
        if (changed || !twins.hasRoomFor(1 + Twins.LOOKS)) {
            twins = new Twins(c);
            way.accept(twins);
        }
        changed = twins.call(call, a) >= 0;
        twins.look();
        if (twins.areAtOdds()) {
            System.out.println("behind:" + twins.told());
            c.end();
        }
    }
}
