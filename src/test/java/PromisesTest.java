/** Each promise of the document by hand, with ordinary inputs; the edges have tests of their own. */
public final class PromisesTest {
    private static final int HIT = Sleevehall.HIT;
    private static final int HEAL = Sleevehall.HEAL;
    private static final int GUARD = Sleevehall.GUARD;
    private static final int STOP = Sleevehall.STOP;
    private static final int TWICE = Sleevehall.TWICE;
    private static final int TURN = Sleevehall.TURN;
    private static final int NONE = Sleevehall.NONE;

    private PromisesTest() {
    }

    public static void main(String[] args) {
        aNewObject();
        kind();
        ban();
        get();
        pass();
        play();
        top();
        topOfStop();
        topOfTwice();
        topOfTurn();
        bound();
        boundFromNow();
        life();
        lifeAnew();
        put();
        isGood();
        draft();
        offered();
        pick();
        wish();
        ring();
        swap();
        pair();
        result();
        has();
        strength();
        stacked();
        questionsChangeNothing();
        Due.end();
    }

    private static void aNewObject() {
        Sleevehall x = new Sleevehall();
        Due.refused("1: no kind", Due.INDEX, () -> x.has(0, 0));
        Due.is("1: the day is 0", false, x.isGood(0, 0));
        for (int player = 0; player < 6; player++) {
            Due.is("1: life", 20, x.life(player, false));
            Due.is("1: shield", 0, x.life(player, true));
            Due.is("1: life anew", 20, x.lifeAnew(player));
            Due.is("1: least life", 20, x.bound(player, false));
            Due.is("1: strength", 1000, x.strength(player));
            Due.is("1: offered", NONE, x.offered(player));
            Due.is("1: ring", NONE, x.ring(player));
            Due.is("1: pair", player ^ 1, x.pair(player, 63));
        }
        Due.is("1: stacked", 0, x.stacked());
        Due.is("1: swap", 0, x.swap());
        Due.is("1: the first day", 1, x.pass(1));
        Due.is("1: another object", 1, new Sleevehall().pass(1));
    }

    private static void kind() {
        Sleevehall x = new Sleevehall();
        for (int number = 0; number < 20; number++) {
            Due.is("2: kind", number, x.kind(number % 6, 1 + number % 9));
        }
        Due.is("2: none of it", 0, x.has(5, 19));
        Due.refused("2: a 21st", Due.STATE, () -> x.kind(0, 1));
        Due.refused("2: a 21st, wrong", Due.ARGUMENT, () -> x.kind(6, 1));
        Due.refused("2: kind 20", Due.INDEX, () -> x.has(0, 20));
        Sleevehall y = new Sleevehall();
        y.kind(HIT, 7);
        y.get(0, 0, 1);
        y.play(0, 0, 1);
        y.top();
        Due.is("2: its number", 13, y.life(1, false));
    }

    private static void ban() {
        Sleevehall x = Halls.stocked();
        Due.is("3: no deck", 0, x.ban(0, 0));
        x.put(0, 1);
        x.put(0, 1);
        x.put(4, 1);
        x.put(5, 2);
        Due.is("3: two decks", 2, x.ban(1, 1000));
        Due.is("3: two decks, told again", 2, x.ban(1, 5));
        Due.refused("3: banned from today", Due.STATE, () -> x.play(0, 0, 0));
        x.ban(0, 2);
        Due.is("3: told again, the last counts", 1, x.play(0, 0, 0));
        x.pass(2);
        Due.refused("3: banned from day 2", Due.STATE, () -> x.play(0, 0, 0));
        Due.is("3: on day 1000", 0, x.ban(5, 1000));
        Sleevehall late = Halls.stocked();
        late.play(0, HIT, 1);
        late.ban(HIT, 0);
        Due.is("3: what is on the stack stays", 0, late.top());
        Due.is("3: and is done", 11, late.life(1, false));
    }

    private static void get() {
        Sleevehall x = new Sleevehall();
        x.kind(0, 1);
        x.kind(0, 1);
        Due.is("4: get", 1, x.get(0, 0, 1));
        Due.is("4: get more", 10, x.get(0, 0, 9));
        Due.is("4: another kind", 2, x.get(0, 1, 2));
        Due.is("4: another player", 3, x.get(5, 0, 3));
        x.ban(0, 0);
        Due.is("4: a banned one", 4, x.get(5, 0, 1));
    }

    private static void pass() {
        Sleevehall x = new Sleevehall();
        Due.is("5: pass", 1, x.pass(1));
        Due.is("5: pass on", 101, x.pass(100));
        for (int at = 0; at < 8; at++) {
            x.pass(100);
        }
        Due.refused("5: above 1000", Due.STATE, () -> x.pass(100));
        Due.is("5: to 1000", 1000, x.pass(99));
        Due.refused("5: day 1001", Due.STATE, () -> x.pass(1));
        Due.refused("5: day 1001, wrong", Due.ARGUMENT, () -> x.pass(0));
        Due.is("5: day 1000", false, x.isGood(0, 1000));
        Due.refused("5: day 999", Due.ARGUMENT, () -> x.isGood(0, 999) ? 1 : 0);
    }

    private static void play() {
        Sleevehall x = Halls.stocked();
        for (int many = 1; many <= 6; many++) {
            Due.is("6: play", many, x.play(many % 6, HIT, 5));
        }
        Due.is("6: the card stays", 9, x.has(1, HIT));
        Due.refused("6: a seventh", Due.STATE, () -> x.play(0, HIT, 0));
        Due.refused("6: a seventh, wrong", Due.INDEX, () -> x.play(0, HIT, 6));
        Due.is("6: six are there", 6, x.stacked());
        x.top();
        Due.is("6: room again", 6, x.play(0, HIT, 0));
        Sleevehall y = Halls.stocked();
        int rare = y.kind(HEAL, 2);
        y.get(1, rare, 1);
        Due.refused("6: not in the collection", Due.STATE, () -> y.play(0, rare, 0));
        Due.is("6: one card played once", 1, y.play(1, rare, 0));
        Due.is("6: and once more", 2, y.play(1, rare, 0));
        y.ban(rare, 1);
        Due.is("6: banned tomorrow", 3, y.play(1, rare, 0));
        y.pass(1);
        Due.refused("6: banned today", Due.STATE, () -> y.play(1, rare, 0));
    }

    private static void top() {
        Sleevehall x = Halls.stocked();
        x.play(0, HEAL, 2);
        x.play(0, GUARD, 2);
        Due.is("7: GUARD", 1, x.top());
        Due.is("7: shield", 5, x.life(2, true));
        Due.is("7: life of the shielded", 20, x.life(2, false));
        Due.is("7: HEAL", 0, x.top());
        Due.is("7: life", 25, x.life(2, false));
        x.play(0, HIT, 2);
        x.top();
        Due.is("7: HIT on a shield", 21, x.life(2, false));
        Due.is("7: the shield is gone", 0, x.life(2, true));
        x.play(0, GUARD, 2);
        x.play(0, GUARD, 2);
        x.top();
        x.top();
        x.play(1, HIT, 2);
        x.top();
        Due.is("7: HIT on a greater shield", 21, x.life(2, false));
        Due.is("7: the shield takes all", 1, x.life(2, true));
        for (int times = 0; times < 4; times++) {
            x.play(2, HIT, 2);
            x.top();
        }
        Due.is("7: a life below 0", -14, x.life(2, false));
        Due.is("7: of no other", 20, x.life(0, false));
    }

    private static void topOfStop() {
        Sleevehall x = Halls.stocked();
        x.play(0, HIT, 3);
        x.play(2, HIT, 4);
        x.play(1, HIT, 5);
        x.play(1, GUARD, 5);
        x.play(1, STOP, 0);
        Due.is("7: STOP, below own ones", 3, x.top());
        x.top();
        Due.is("7: an own one above it stays", 5, x.life(5, true));
        x.top();
        Due.is("7: an own one below it stays", 16, x.life(5, false));
        x.top();
        Due.is("7: the nearest one is off", 20, x.life(4, false));
        Due.is("7: the next one is not", 11, x.life(3, false));
        x.play(1, HIT, 0);
        x.play(1, STOP, 0);
        Due.is("7: STOP of nothing but own ones", 1, x.top());
        x.top();
        Due.is("7: the own one was done", 11, x.life(0, false));
        x.play(1, STOP, 0);
        Due.is("7: STOP alone", 0, x.top());
        x.play(0, HIT, 1);
        x.play(1, STOP, 1);
        x.play(0, STOP, 1);
        Due.is("7: STOP of a STOP", 1, x.top());
        x.top();
        Due.is("7: what was to be stopped is done", 11, x.life(1, false));
        Sleevehall y = Halls.stocked();
        y.play(0, HIT, 3);
        y.play(1, HIT, 4);
        y.play(2, HIT, 5);
        y.play(2, STOP, 5);
        y.top();
        y.play(1, STOP, 5);
        Due.is("7: STOP of what moved down", 1, y.top());
        y.top();
        Due.is("7: the lowest one was not off", 11, y.life(3, false));
        Due.is("7: but the nearest one, which is still by its player", 20, y.life(5, false));
    }

    private static void topOfTwice() {
        Sleevehall x = Halls.stocked();
        x.play(0, HEAL, 0);
        x.play(1, HEAL, 1);
        x.play(2, TWICE, 2);
        Due.is("7: TWICE", 2, x.top());
        x.top();
        Due.is("7: the next one is doubled", 30, x.life(1, false));
        x.top();
        Due.is("7: no other is", 25, x.life(0, false));
        x.play(0, TWICE, 0);
        Due.is("7: TWICE alone", 0, x.top());
        x.play(0, GUARD, 0);
        x.play(0, TWICE, 0);
        x.play(0, TWICE, 0);
        x.top();
        x.top();
        x.top();
        Due.is("7: a doubled TWICE doubles once", 10, x.life(0, true));
        x.play(3, HIT, 3);
        x.play(3, TWICE, 3);
        x.top();
        x.play(3, TWICE, 3);
        x.top();
        x.top();
        Due.is("7: doubled two times", -16, x.life(3, false));
    }

    private static void topOfTurn() {
        Sleevehall x = Halls.stocked();
        x.play(0, HIT, 0);
        x.play(1, HEAL, 1);
        x.play(2, GUARD, 2);
        x.play(3, TURN, 3);
        x.play(4, TURN, 4);
        Due.is("7: TURN", 4, x.top());
        Due.is("7: TURN again", 3, x.top());
        x.play(5, TURN, 5);
        x.top();
        x.play(3, HIT, 3);
        x.top();
        Due.is("7: a later one is not turned", 11, x.life(3, false));
        x.top();
        Due.is("7: GUARD is not turned", 5, x.life(2, true));
        x.top();
        Due.is("7: HEAL is HIT", 15, x.life(1, false));
        x.top();
        Due.is("7: HIT is HEAL", 29, x.life(0, false));
        x.play(5, TURN, 5);
        Due.is("7: TURN alone", 0, x.top());
        x.play(5, HIT, 5);
        x.top();
        Due.is("7: the kind itself is not turned", 11, x.life(5, false));
    }

    private static void bound() {
        Sleevehall x = Halls.stocked();
        Due.is("8: an empty stack", 20, x.bound(0, false));
        x.play(0, HIT, 1);
        Due.is("8: one play, least", 11, x.bound(1, false));
        Due.is("8: one play, greatest", 11, x.bound(1, true));
        Due.is("8: of another player", 20, x.bound(0, true));
        x.play(1, GUARD, 1);
        Due.is("8: GUARD behind or before, least", 11, x.bound(1, false));
        Due.is("8: GUARD behind or before, greatest", 16, x.bound(1, true));
        x.play(2, TWICE, 2);
        Due.is("8: TWICE, least", 2, x.bound(1, false));
        Due.is("8: TWICE, greatest", 21 - 1, x.bound(1, true));
        Due.is("8: nothing is done", 3, x.stacked());
        Due.is("8: no life is changed", 20, x.life(1, false));
        x.play(3, TURN, 3);
        x.play(4, STOP, 4);
        x.play(1, HEAL, 1);
        Due.is("8: six plays, least", 20 - 18 - 5, x.bound(1, false));
        Due.is("8: six plays, greatest", 20 + 18 + 5, x.bound(1, true));
        Due.is("8: six plays, another player", 20, x.bound(5, true));
        Due.is("8: the top of all", 5, x.top());
        Due.is("8: is as it was", 25, x.life(1, false));
        Sleevehall stop = Halls.stocked();
        stop.play(0, HIT, 5);
        stop.play(1, HEAL, 5);
        stop.play(1, STOP, 5);
        Due.is("8: STOP, least", 16, stop.bound(5, false));
        Due.is("8: STOP of another player's only", 25, stop.bound(5, true));
        Sleevehall none = Halls.stocked();
        for (int times = 0; times < 2; times++) {
            none.play(0, HIT, 3);
            none.top();
        }
        none.play(0, HIT, 3);
        Due.is("8: a life below 0", -7, none.bound(3, true));
    }

    private static void boundFromNow() {
        Sleevehall x = Halls.stocked();
        x.play(1, GUARD, 0);
        x.top();
        x.play(1, HIT, 0);
        x.top();
        x.play(1, GUARD, 0);
        x.top();
        x.play(1, HIT, 0);
        Due.is("8: of the life and the shield as they are", 16 - 4, x.bound(0, false));
        x.play(1, HEAL, 0);
        x.play(1, HEAL, 0);
        x.play(1, HEAL, 0);
        x.play(1, HEAL, 0);
        x.play(1, TWICE, 0);
        Due.is("8: all six are done, least", 12 + 20 - 9, x.bound(0, false));
        Due.is("8: all six are done, greatest", 12 + 25, x.bound(0, true));
        Sleevehall y = Halls.stocked();
        y.play(0, HIT, 3);
        y.play(1, STOP, 3);
        y.play(1, TWICE, 3);
        Due.is("8: STOP is below HIT, or its number is doubled", 20 - 18, y.bound(3, false));
        Due.is("8: STOP is above HIT", 20, y.bound(3, true));
        Sleevehall z = Halls.stocked();
        z.play(0, HEAL, 3);
        z.play(0, TWICE, 3);
        z.play(0, TWICE, 3);
        Due.is("8: TWICE of a TWICE, or of the next one", 30, z.bound(3, true));
        Due.is("8: or of none", 25, z.bound(3, false));
    }

    private static void life() {
        Sleevehall x = Halls.busy();
        Due.is("9: life", 11, x.life(0, false));
        Due.is("9: shield", 0, x.life(0, true));
        Due.is("9: shield of the guarded", 5, x.life(1, true));
        Due.is("9: life of the guarded", 20, x.life(1, false));
    }

    private static void lifeAnew() {
        Sleevehall x = Halls.stocked();
        x.play(0, HIT, 1);
        Due.is("10: played is not done", 20, x.lifeAnew(1));
        x.play(2, TWICE, 2);
        x.top();
        x.play(2, TURN, 2);
        x.top();
        x.play(2, HIT, 1);
        x.play(3, STOP, 1);
        x.top();
        x.top();
        Due.is("10: all that was done", 38, x.lifeAnew(1));
        Due.is("10: asked again", 38, x.lifeAnew(1));
        Due.is("10: of another", 20, x.lifeAnew(2));
        Due.refused("10: what is refused", Due.STATE, () -> x.top());
        x.play(5, GUARD, 0);
        x.top();
        x.play(5, HIT, 0);
        x.top();
        Due.is("10: behind a shield", 16, x.lifeAnew(0));
        x.play(5, GUARD, 0);
        x.top();
        x.play(5, HIT, 2);
        Due.is("10: with a shield and a play left", 16, x.lifeAnew(0));
        x.top();
        x.play(5, HEAL, 2);
        x.top();
        Due.is("10: they are not there two times", 16, x.lifeAnew(0));
        Due.is("10: nor is the play", 16, x.lifeAnew(2));
        Sleevehall y = Halls.stocked();
        for (int times = 0; times < 200; times++) {
            y.play(0, HEAL, 3);
            y.top();
        }
        Due.is("10: after 400 calls", 1020, y.lifeAnew(3));
    }

    private static void put() {
        Sleevehall x = Halls.stocked();
        for (int many = 1; many <= 3; many++) {
            Due.is("11: put", many, x.put(0, 0));
        }
        Due.refused("11: a fourth of a kind", Due.STATE, () -> x.put(0, 0));
        for (int many = 4; many <= 8; many++) {
            Due.is("11: put", many, x.put(0, many / 3));
        }
        Due.refused("11: a ninth", Due.STATE, () -> x.put(0, 5));
        Due.refused("11: a ninth, wrong", Due.INDEX, () -> x.put(0, 6));
        Due.is("11: another player's", 1, x.put(5, 0));
        Due.is("11: it stays in the collection", 9, x.has(0, 0));
        int rare = x.kind(HIT, 1);
        Due.refused("11: not in the collection", Due.STATE, () -> x.put(1, rare));
        x.get(1, rare, 2);
        x.ban(rare, 0);
        Due.is("11: a banned one", 1, x.put(1, rare));
        Due.is("11: as many as there are", 2, x.put(1, rare));
        Due.refused("11: more than there are", Due.STATE, () -> x.put(1, rare));
        x.get(1, rare, 1);
        Due.is("11: after one more is there", 3, x.put(1, rare));
    }

    private static void isGood() {
        Sleevehall x = Halls.stocked();
        Due.is("12: no deck", false, x.isGood(0, 0));
        for (int kind = 0; kind < 3; kind++) {
            x.put(0, kind);
        }
        Due.is("12: 3 cards", false, x.isGood(0, 0));
        x.put(0, 2);
        Due.is("12: 4 cards", true, x.isGood(0, 0));
        Due.is("12: on the last day", true, x.isGood(0, 1000));
        Due.is("12: another player's", false, x.isGood(1, 0));
        x.ban(5, 0);
        Due.is("12: a ban of another kind", true, x.isGood(0, 0));
        x.ban(1, 7);
        Due.is("12: before the ban", true, x.isGood(0, 6));
        Due.is("12: from the ban on", false, x.isGood(0, 7));
        Due.is("12: after the ban", false, x.isGood(0, 8));
        x.ban(1, 9);
        Due.is("12: the ban told last", true, x.isGood(0, 8));
        Due.is("12: the ban told last, on its day", false, x.isGood(0, 9));
        Sleevehall y = new Sleevehall();
        y.kind(0, 1);
        y.kind(0, 2);
        y.get(0, 0, 3);
        y.get(0, 1, 1);
        y.get(1, 1, 1);
        y.put(0, 0);
        y.put(0, 0);
        y.put(0, 0);
        y.put(0, 1);
        Due.is("12: before a swap", true, y.isGood(0, 0));
        y.wish(0, 0, 1);
        y.wish(1, 1, 0);
        y.swap();
        Due.is("12: a card of it was swapped away", false, y.isGood(0, 0));
        Due.refused("12: more of it than there are", Due.STATE, () -> y.put(0, 0));
        y.get(0, 0, 1);
        Due.is("12: it came back", true, y.isGood(0, 0));
        Due.is("12: today", true, Halls.busy().isGood(0, 3));
    }

    /** The kinds of the first packs, by the numbers: 0 becomes 74, 5624, 28652, 51790. */
    private static void draft() {
        Sleevehall x = Halls.stocked();
        x.draft(2, 3, 0);
        Due.is("13: the first card", 74 % 6, x.offered(0));
        Due.is("13: the second card", (75 * 74 + 74) % 6, x.offered(1));
        Due.is("13: the third card", (75 * 5624 + 74) % 65537 % 6, x.offered(2));
        Due.is("13: no fourth card", NONE, x.offered(3));
        x.pick(0);
        int fourth = (75 * ((75 * 5624 + 74) % 65537) + 74) % 65537;
        Due.is("13: pack by pack", fourth % 6, x.offered(0));
        x.draft(6, 6, 65536);
        Due.is("13: in place of another, from 0 on", ((75 * 65536 + 74) % 65537) % 6, x.offered(0));
        Due.is("13: six cards", true, x.offered(5) != NONE);
        Due.is("13: not seven", NONE, x.offered(6));
        for (int turn = 1; turn <= 5; turn++) {
            Due.is("13: six players", turn, x.pick(0));
        }
        Due.is("13: six players, round", 0, x.pick(0));
        x.kind(HIT, 1);
        x.draft(2, 3, 0);
        Due.is("13: by how many kinds there are", 74 % 7, x.offered(0));
        x.kind(HIT, 1);
        Due.is("13: kinds that come later change no pack", 74 % 7, x.offered(0));
        Due.refused("13: no kinds", Due.STATE, () -> Halls.draft(new Sleevehall(), 2, 3, 0));
        Due.refused("13: no kinds, wrong", Due.ARGUMENT, () -> Halls.draft(new Sleevehall(), 2, 3, -1));
    }

    private static void offered() {
        Sleevehall x = Halls.stocked();
        Due.is("14: no draft", NONE, x.offered(0));
        Due.is("14: no draft, far off", NONE, x.offered(Integer.MAX_VALUE));
        Due.refused("14: no draft, place -1", Due.INDEX, () -> x.offered(-1));
        x.draft(2, 3, 0);
        int first = x.offered(0);
        int last = x.offered(2);
        x.pick(1);
        x.pick(0);
        x.pick(0);
        Due.is("14: those behind move up", last, x.offered(1));
        Due.is("14: those before stay", first, x.offered(0));
        Due.is("14: one less", NONE, x.offered(2));
        Due.is("14: far off", NONE, x.offered(Integer.MAX_VALUE));
    }

    private static void pick() {
        Sleevehall x = Halls.stocked();
        x.draft(3, 3, 11);
        int[][] packs = new int[3][3];
        int seed = 11;
        for (int card = 0; card < 9; card++) {
            seed = (75 * seed + 74) % 65537;
            packs[card / 3][card % 3] = seed % 6;
        }
        for (int round = 0; round < 3; round++) {
            for (int turn = 0; turn < 3; turn++) {
                int[] pack = packs[(turn + 3 - round) % 3];
                Due.is("15: the pack that is before one", pack[round], x.offered(0));
                int before = x.has(turn, pack[round]);
                boolean isLast = round == 2 && turn == 2;
                Due.is("15: whose turn it is", isLast ? NONE : (turn + 1) % 3, x.pick(0));
                Due.is("15: it is in the collection", before + 1, x.has(turn, pack[round]));
            }
        }
        Due.refused("15: the draft is over", Due.STATE, () -> x.pick(0));
        Due.refused("15: over, far off", Due.STATE, () -> x.pick(9));
        Due.refused("15: over, place -1", Due.INDEX, () -> x.pick(-1));
        Due.is("15: over, nothing is offered", NONE, x.offered(0));
        Due.refused("15: no draft", Due.STATE, () -> new Sleevehall().pick(0));
        Sleevehall last = Halls.stocked();
        last.draft(2, 3, 11);
        Due.is("15: the last place", 1, last.pick(2));
    }

    private static void wish() {
        Sleevehall x = Halls.stocked();
        x.wish(0, 0, 1);
        x.wish(1, 1, 0);
        Due.is("16: two wishes", 1, x.ring(1));
        x.wish(1, 1, 2);
        Due.is("16: in place of another one", NONE, x.ring(0));
        int rare = x.kind(HIT, 1);
        x.wish(0, rare, 1);
        x.wish(1, 1, rare);
        Due.is("16: a wish of what one has not", NONE, x.ring(0));
    }

    private static void ring() {
        Sleevehall x = Halls.stocked();
        int[] order = {0, 3, 1, 5, 2, 4};
        for (int at = 0; at < 6; at++) {
            x.wish(order[at], at, (at + 5) % 6);
        }
        for (int at = 0; at < 6; at++) {
            Due.is("17: a ring of six", order[at], x.ring(at));
        }
        x.wish(2, 4, 5);
        x.wish(4, 5, 4);
        Due.is("17: the fewest, first", 2, x.ring(0));
        Due.is("17: the fewest, second", 4, x.ring(1));
        Due.is("17: the fewest, no third", NONE, x.ring(2));
        x.wish(1, 5, 4);
        Due.is("17: the lowest first one", 1, x.ring(0));
        Due.is("17: then the second one", 2, x.ring(1));
        Sleevehall y = new Sleevehall();
        y.kind(0, 1);
        y.kind(0, 1);
        y.get(1, 0, 1);
        y.get(4, 1, 1);
        y.wish(0, 0, 1);
        y.wish(1, 0, 1);
        y.wish(3, 1, 0);
        y.wish(4, 1, 0);
        Due.is("17: all have what they give, first", 1, y.ring(0));
        Due.is("17: all have what they give, second", 4, y.ring(1));
        y.get(0, 0, 1);
        Due.is("17: then another one", 0, y.ring(0));
    }

    private static void swap() {
        Sleevehall x = new Sleevehall();
        for (int kind = 0; kind < 3; kind++) {
            x.kind(0, 1);
            x.get(kind, kind, 2);
        }
        Due.is("18: none", 0, x.swap());
        x.wish(0, 0, 1);
        x.wish(1, 1, 2);
        x.wish(2, 2, 0);
        x.get(5, 0, 1);
        x.wish(5, 0, 1);
        Due.is("18: three", 3, x.swap());
        Due.is("18: given", 1, x.has(0, 0));
        Due.is("18: got", 1, x.has(0, 1));
        Due.is("18: given by the second", 1, x.has(2, 2));
        Due.is("18: got by the second", 1, x.has(2, 0));
        Due.is("18: given by the last", 1, x.has(1, 1));
        Due.is("18: got by the last", 1, x.has(1, 2));
        Due.is("18: the wishes are over", NONE, x.ring(0));
        Due.is("18: and nothing is swapped", 0, x.swap());
        x.wish(1, 1, 0);
        Due.is("18: a wish outside of it stays", 5, x.ring(1));
        Due.is("18: and comes to be swapped", 2, x.swap());
        Due.is("18: by the other one", 1, x.has(5, 1));
        Due.is("18: who had one", 0, x.has(5, 0));
    }

    private static void pair() {
        Sleevehall x = new Sleevehall();
        Due.is("19: nobody is in", NONE, x.pair(0, 0));
        Due.is("19: one alone", NONE, x.pair(0, 1));
        Due.is("19: not in", NONE, x.pair(2, 3));
        Due.is("19: of alike ones the lowest", 3, x.pair(1, 0b111010));
        Due.is("19: of an odd many the last one", NONE, x.pair(4, 0b11111));
        Due.is("19: of an odd many the others", 2, x.pair(3, 0b11111));
        x.result(5, 0);
        Due.is("19: the strongest first", 1, x.pair(5, 63));
        Due.is("19: the weakest last", 4, x.pair(0, 63));
        Due.is("19: the weakest is left out", NONE, x.pair(0, 0b100011));
        x.result(5, 1);
        x.result(5, 2);
        Due.is("19: one who was met is not taken", 3, x.pair(5, 63));
        Due.is("19: nor by the other one", NONE, x.pair(0, 0b100001));
        Due.is("19: those who are left", 2, x.pair(4, 63));
        x.result(3, 5);
        x.result(4, 5);
        Due.is("19: no way for one is none for any", NONE, x.pair(1, 63));
        Due.is("19: a way without that one", 2, x.pair(1, 0b00110));
        Sleevehall y = new Sleevehall();
        y.result(0, 1);
        y.result(1, 0);
        y.result(2, 3);
        y.result(3, 2);
        Due.is("19: the row is by strength now", 3, y.pair(1, 0b1111));
        Due.is("19: and the weaker ones are left", 0, y.pair(2, 0b1111));
        Sleevehall z = new Sleevehall();
        for (int times = 0; times < 3; times++) {
            z.result(0, 5);
            z.result(1, 5);
        }
        z.result(2, 3);
        Due.is("19: 0, 1, 2, 3 by strength", true, z.strength(0) > z.strength(1) && z.strength(1) > z.strength(2));
        Due.is("19: not the earliest, if the rest has met", 2, z.pair(0, 0b1111));
        Due.is("19: and the rest then", 1, z.pair(3, 0b1111));
        Sleevehall strong = new Sleevehall();
        for (int times = 0; times < 40; times++) {
            strong.result(0, 4);
            strong.result(0, 5);
        }
        strong.result(1, 0);
        Due.is("19: a loser who is the stronger one still", true, strong.strength(0) > strong.strength(1));
        Due.is("19: has met the winner, too", 2, strong.pair(0, 0b1111));
    }

    private static void result() {
        Sleevehall x = new Sleevehall();
        Due.is("20: alike", 16, x.result(0, 1));
        Due.is("20: the winner gains", 1016, x.strength(0));
        Due.is("20: the loser loses", 984, x.strength(1));
        Due.is("20: they have met", 2, x.pair(0, 0b111100 | 3));
        Due.is("20: a stronger loser", 24, x.result(1, 0));
        Due.is("20: of 16 a quarter", 16 - (1008 - 992) / 4, x.result(1, 0));
        Due.is("20: rounded towards 0, below", 16 - 5, x.result(1, 2));
        Due.is("20: strength", 1031, x.strength(1));
        Due.is("20: rounded towards 0, above", 16 + 10, x.result(2, 1));
        for (int times = 0; times < 30; times++) {
            x.result(3, 4);
        }
        Due.is("20: at least 1", 1, x.result(3, 4));
        while (x.strength(3) - x.strength(4) < 64) {
            x.result(3, 4);
        }
        Due.is("20: at most 32", 32, x.result(4, 3));
        Sleevehall far = new Sleevehall();
        for (int times = 0; times < 20; times++) {
            far.result(0, 1);
            far.result(0, 2);
            far.result(3, 5);
        }
        Due.is("20: far more than 32", 32, far.result(1, 0));
    }

    private static void has() {
        Sleevehall x = Halls.stocked();
        Due.is("21: has", 9, x.has(5, 5));
        x.get(5, 5, 2);
        Due.is("21: has more", 11, x.has(5, 5));
        Due.is("21: another kind", 9, x.has(5, 4));
        Due.is("21: another player", 9, x.has(4, 5));
    }

    private static void strength() {
        Sleevehall x = Halls.busy();
        Due.is("22: strength", 1016, x.strength(4));
        Due.is("22: of the loser", 984, x.strength(5));
        Due.is("22: of another", 1000, x.strength(0));
    }

    private static void stacked() {
        Sleevehall x = Halls.stocked();
        Due.is("23: none", 0, x.stacked());
        x.play(0, HIT, 1);
        x.play(1, STOP, 1);
        Due.is("23: two", 2, x.stacked());
        x.top();
        Due.is("23: STOP takes two off", 0, x.stacked());
    }

    /** Nothing is promised to change by a question, however often it is asked. */
    private static void questionsChangeNothing() {
        Sleevehall x = Halls.piled();
        for (int player = 0; player < 6; player++) {
            x.bound(player, false);
            x.bound(player, true);
            x.life(player, false);
            x.life(player, true);
            x.lifeAnew(player);
            x.isGood(player, 3);
            x.isGood(player, 1000);
            x.offered(player);
            x.ring(player);
            x.pair(player, 63);
            x.pair(player, 7 << player & 63);
            x.has(player, 5);
            x.strength(player);
            x.stacked();
        }
        Due.same("what stands after questions", Probe.of(Halls.piled()), Probe.of(x));
    }
}
