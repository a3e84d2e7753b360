/** Halls that tests go on from; each call makes a new one, the same each time. */
final class Halls {
    static final int PLAYERS = 6;
    static final int[] EFFECTS = {
        Sleevehall.HIT, Sleevehall.HEAL, Sleevehall.GUARD, Sleevehall.STOP, Sleevehall.TWICE, Sleevehall.TURN,
    };

    private Halls() {
    }

    /** One kind of each effect, the number 5 but 9 for HIT; all players have 9 of each. It takes 42 calls. */
    static Sleevehall stocked() {
        Sleevehall x = new Sleevehall();
        for (int effect : EFFECTS) {
            x.kind(effect, effect == Sleevehall.HIT ? 9 : 5);
        }
        for (int player = 0; player < PLAYERS; player++) {
            for (int kind = 0; kind < EFFECTS.length; kind++) {
                x.get(player, kind, 9);
            }
        }
        return x;
    }

    /** As many kinds as are told, of the effects in turn, with the number 1; nobody has any. */
    static Sleevehall printed(int kinds) {
        Sleevehall x = new Sleevehall();
        for (int kind = 0; kind < kinds; kind++) {
            x.kind(EFFECTS[kind % EFFECTS.length], 1);
        }
        return x;
    }

    /** A hall on the day 3, in the middle of all: bans to come, a stack, decks, a draft, wishes, results. */
    static Sleevehall busy() {
        Sleevehall x = stocked();
        x.pass(3);
        x.ban(Sleevehall.TWICE, 4);
        x.ban(Sleevehall.TURN, 5);
        x.play(0, Sleevehall.GUARD, 1);
        x.top();
        x.play(1, Sleevehall.HIT, 0);
        x.top();
        x.play(2, Sleevehall.HEAL, 3);
        x.play(3, Sleevehall.HIT, 2);
        x.play(4, Sleevehall.STOP, 1);
        x.put(0, 0);
        x.put(0, 0);
        x.put(0, 1);
        x.put(0, 2);
        x.put(5, 5);
        x.draft(3, 4, 7);
        x.pick(1);
        x.pick(3);
        x.pick(0);
        x.pick(2);
        x.wish(0, 0, 1);
        x.wish(1, 1, 0);
        x.wish(2, 2, 3);
        x.wish(3, 3, 4);
        x.wish(4, 4, 2);
        x.wish(5, 5, 1);
        x.result(4, 5);
        x.result(1, 3);
        return x;
    }

    /** The busy hall, with the stack done. */
    static Sleevehall emptied() {
        Sleevehall x = busy();
        x.top();
        x.top();
        return x;
    }

    /** The busy hall, with six plays on the stack. */
    static Sleevehall piled() {
        Sleevehall x = busy();
        for (int kind = 0; kind < 3; kind++) {
            x.play(kind, kind, 5);
        }
        return x;
    }

    /** The busy hall, with the draft over. */
    static Sleevehall drafted() {
        Sleevehall x = busy();
        for (int left = 3 * 4 - 4; left > 0; left--) {
            x.pick(0);
        }
        return x;
    }

    /** The busy hall on the last day but so many. */
    static Sleevehall late(int before) {
        Sleevehall x = busy();
        for (int times = 0; times < 9; times++) {
            x.pass(100);
        }
        x.pass(1000 - 903 - before);
        return x;
    }

    /** The busy hall, with 20 kinds. */
    static Sleevehall full() {
        Sleevehall x = busy();
        for (int kind = EFFECTS.length; kind < 20; kind++) {
            x.kind(Sleevehall.HIT, 1);
        }
        return x;
    }

    static long draft(Sleevehall x, int players, int cards, int seed) {
        x.draft(players, cards, seed);
        return 0;
    }

    static long wish(Sleevehall x, int player, int gives, int wants) {
        x.wish(player, gives, wants);
        return 0;
    }

    static long isGood(Sleevehall x, int player, int day) {
        return x.isGood(player, day) ? 1 : 0;
    }
}
