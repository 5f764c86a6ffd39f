/** Calls that bring a new object to where a sentence is held. */
interface Way {
    Way NEW = x -> { };

    /** All that can be asked of a PIECE; it changes nothing but what was told last. */
    Way ASKS = x -> {
        x.fits();
        x.likely();
        x.who();
        x.aloud();
        x.began();
        x.best();
        x.fewest();
        x.modern();
        x.rule();
        x.line();
        x.letter();
        x.hear();
        for (int p = 0; p < 4; p++) {
            x.odds(p);
            x.self(p);
            x.hides(p, 1);
        }
        for (int rule = 0; rule < 6; rule++) {
            x.together(rule);
            x.signs(rule);
        }
    };

    void go(BarBehind x);

    default Way then(Way more) {
        return x -> {
            go(x);
            more.go(x);
        };
    }

    default Way then(int times, Way more) {
        return x -> {
            go(x);
            for (int i = 0; i < times; i++) more.go(x);
        };
    }

    /** TEXT t of just these signs. */
    static Way text(int t, String signs) {
        return x -> Check.write(x, t, signs);
    }

    /** This PIECE, by TEXT 0. */
    static Way piece(String signs) {
        return text(0, signs).then(x -> x.piece(0));
    }

    default Way plays(int n) {
        return then(n, BarBehind::play);
    }

    /** Each PLAYER, not OUT so far, slips till OUT by so much. */
    default Way outs(int... outs) {
        return then(x -> {
            for (int p = 0; p < outs.length; p++) {
                for (int i = 0; i < Math.abs(outs[p]); i++) x.slip(p, Integer.signum(outs[p]));
            }
        });
    }

    /** So many DEEDS that move nobody, if PLAYERS 0 and 1 are at one. */
    default Way idle(int deeds) {
        return then(deeds, x -> x.jump(0, 1));
    }

    default BarBehind made() {
        BarBehind x = new BarBehind();
        go(x);
        return x;
    }
}
