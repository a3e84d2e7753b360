/** What a hall answers from here on, in some 300 calls at most: two halls that stand alike answer alike. It uses them up. */
final class Probe {
    private static final int MOST_TIMES = 40;

    private final Sleevehall x;
    private final StringBuilder all = new StringBuilder();
    private int kinds;

    private Probe(Sleevehall x) {
        this.x = x;
    }

    static String of(Sleevehall x) {
        Probe probe = new Probe(x);
        probe.countKinds();
        probe.lives();
        probe.pairs();
        probe.wishes();
        probe.drafts();
        probe.decks();
        probe.stack();
        probe.days();
        probe.collections();
        probe.ask("the next kind", () -> x.kind(Sleevehall.HIT, 1));
        return probe.all.toString();
    }

    private String ask(String what, Due.Call call) {
        String told = Due.told(call);
        all.append(what).append(' ').append(told).append("; ");
        return told;
    }

    /** Asks a call until it throws. */
    private void askOn(String what, Due.Call call) {
        int times = 0;
        while (times < MOST_TIMES && !ask(what, call).endsWith("Exception")) {
            times++;
        }
    }

    private void countKinds() {
        int kind = 0;
        while (!Due.told(asHas(0, kind)).equals(Due.INDEX)) {
            kind++;
        }
        all.append("kinds ").append(kind).append("; ");
        kinds = Math.min(kind, Halls.EFFECTS.length);
    }

    private Due.Call asHas(int player, int kind) {
        return () -> x.has(player, kind);
    }

    private void lives() {
        for (int player = 0; player < Halls.PLAYERS; player++) {
            int p = player;
            ask("least", () -> x.bound(p, false));
            ask("greatest", () -> x.bound(p, true));
            ask("anew", () -> x.lifeAnew(p));
        }
    }

    private void pairs() {
        for (int player = 0; player < Halls.PLAYERS; player++) {
            int p = player;
            ask("strength", () -> x.strength(p));
            for (int other = player + 1; other < Halls.PLAYERS; other++) {
                int both = 1 << player | 1 << other;
                ask("pair", () -> x.pair(p, both));
            }
        }
    }

    private void wishes() {
        for (int round = 0; round < 3; round++) {
            for (int place = 0; place < 4; place++) {
                int at = place;
                ask("ring", () -> x.ring(at));
            }
            ask("swap", () -> x.swap());
        }
        ask("a wish of the one who is left", () -> Halls.wish(x, 0, 1, 5));
        ask("swap", () -> x.swap());
    }

    private void drafts() {
        for (int place = 0; place < 6; place++) {
            int at = place;
            ask("offered", () -> x.offered(at));
        }
        askOn("pick", () -> {
            long kind = x.offered(0);
            return 10 * kind + x.pick(0);
        });
    }

    private void decks() {
        for (int player = 0; player < Halls.PLAYERS; player++) {
            int p = player;
            for (int kind = 0; kind < kinds; kind++) {
                int k = kind;
                askOn("put", () -> x.put(p, k));
            }
        }
    }

    private void stack() {
        while (x.stacked() > 0 && !ask("top", () -> x.top()).equals(Due.STATE)) {
            for (int player = 0; player < Halls.PLAYERS; player++) {
                int p = player;
                ask("life", () -> x.life(p, false));
                ask("shield", () -> x.life(p, true));
            }
        }
        ask("stacked", () -> x.stacked());
    }

    private void days() {
        for (int round = 0; round < 3; round++) {
            for (int kind = 0; kind < kinds; kind++) {
                int k = kind;
                if (!ask("play", () -> x.play(0, k, 0)).equals(Due.STATE)) {
                    ask("top", () -> x.top());
                }
            }
            ask("pass", () -> x.pass(1));
        }
    }

    private void collections() {
        for (int player = 0; player < Halls.PLAYERS; player++) {
            for (int kind = 0; kind < kinds; kind++) {
                ask("has", asHas(player, kind));
            }
        }
    }
}
