/** Each call that the document refuses: the exception that is due, the last numbers that are taken, nothing changed. */
public final class RefusedCallsTest {
    private static final String INDEX = Due.INDEX;
    private static final String ARGUMENT = Due.ARGUMENT;
    private static final String STATE = Due.STATE;

    private RefusedCallsTest() {
    }

    public static void main(String[] args) {
        probeSeesAll();
        cards();
        stack();
        decks();
        drafts();
        swaps();
        pairs();
        questions();
        withoutKinds();
        states();
        doings();
        severalOfCards();
        severalOfStackAndDecks();
        severalOfDrafts();
        severalOfSwapsAndPairs();
        Due.end();
    }

    /** What this test holds rests on the probe: any call that changes something must change what it tells. */
    private static void probeSeesAll() {
        seen("kind", h -> h.kind(5, 9));
        seen("ban", h -> h.ban(0, 4));
        seen("ban of a banned one", h -> h.ban(Sleevehall.TURN, 4));
        seen("get", h -> h.get(5, 5, 1));
        seen("pass", h -> h.pass(1));
        seen("play", h -> h.play(5, 2, 5));
        seen("top", h -> h.top());
        seen("put", h -> h.put(3, 5));
        seen("draft", h -> Halls.draft(h, 3, 4, 8));
        seen("pick", h -> h.pick(0));
        seen("pick of the second", h -> h.pick(1));
        seen("wish of one in a ring", h -> Halls.wish(h, 0, 0, 2));
        seen("wish of one in no ring", h -> Halls.wish(h, 5, 5, 0));
        seen("swap", h -> h.swap());
        seen("result", h -> h.result(2, 5));
        seen("result of the alike", h -> h.result(0, 2));
        Due.same("the probe of alike halls", Probe.of(Halls.busy()), Probe.of(Halls.busy()));
    }

    private static void seen(String what, Calls.Call call) {
        Sleevehall x = Halls.busy();
        call.on(x);
        Due.is("the probe sees " + what, false, Probe.of(x).equals(Probe.of(Halls.busy())));
    }

    private static void cards() {
        Calls.range("2: effect", ARGUMENT, 0, 5, Halls::busy, (h, n) -> h.kind(n, 1));
        Calls.range("2: number", ARGUMENT, 1, 9, Halls::busy, (h, n) -> h.kind(0, n));
        Calls.kinds("3: kind", Halls::busy, (h, n) -> h.ban(n, 5));
        Calls.range("3: day", ARGUMENT, 3, 1000, Halls::busy, (h, n) -> h.ban(0, n));
        Calls.range("3: day, on the first one", ARGUMENT, 0, 1000, Halls::stocked, (h, n) -> h.ban(0, n));
        Calls.range("3: day, on the last one", ARGUMENT, 1000, 1000, () -> Halls.late(0), (h, n) -> h.ban(0, n));
        Calls.players("4: player", Halls::busy, (h, n) -> h.get(n, 0, 1));
        Calls.kinds("4: kind", Halls::busy, (h, n) -> h.get(0, n, 1));
        Calls.range("4: many", ARGUMENT, 1, 9, Halls::busy, (h, n) -> h.get(0, 0, n));
        Calls.range("5: days", ARGUMENT, 1, 100, Halls::busy, (h, n) -> h.pass(n));
    }

    private static void stack() {
        Calls.players("6: player", Halls::busy, (h, n) -> h.play(n, 0, 0));
        Calls.players("6: against", Halls::busy, (h, n) -> h.play(0, 0, n));
        Calls.range("6: kind", INDEX, 0, 5, Halls::stocked, (h, n) -> h.play(0, n, 0));
        Calls.players("8: player", Halls::busy, (h, n) -> h.bound(n, false));
        Calls.players("8: player, greatest", Halls::busy, (h, n) -> h.bound(n, true));
        Calls.players("9: player", Halls::busy, (h, n) -> h.life(n, false));
        Calls.players("9: player, shield", Halls::busy, (h, n) -> h.life(n, true));
        Calls.players("10: player", Halls::busy, (h, n) -> h.lifeAnew(n));
    }

    private static void decks() {
        Calls.players("11: player", Halls::busy, (h, n) -> h.put(n, 1));
        Calls.kinds("11: kind", Halls::busy, (h, n) -> h.put(1, n));
        Calls.players("12: player", Halls::busy, (h, n) -> Halls.isGood(h, n, 3));
        Calls.range("12: day", ARGUMENT, 3, 1000, Halls::busy, (h, n) -> Halls.isGood(h, 0, n));
        Calls.range("12: day, on the first one", ARGUMENT, 0, 1000, Halls::stocked, (h, n) -> Halls.isGood(h, 0, n));
        Calls.range("12: day, on the last one", ARGUMENT, 1000, 1000, () -> Halls.late(0),
            (h, n) -> Halls.isGood(h, 0, n));
    }

    private static void drafts() {
        Calls.range("13: players", ARGUMENT, 2, 6, Halls::busy, (h, n) -> Halls.draft(h, n, 3, 0));
        Calls.range("13: cards", ARGUMENT, 3, 6, Halls::busy, (h, n) -> Halls.draft(h, 2, n, 0));
        Calls.range("13: x", ARGUMENT, 0, 65536, Halls::busy, (h, n) -> Halls.draft(h, 2, 3, n));
        Calls.refused("14: place -1", INDEX, Halls::busy, h -> h.offered(-1));
        Calls.refused("14: place far below", INDEX, Halls::busy, h -> h.offered(Integer.MIN_VALUE));
        Calls.refused("14: place -1, without a draft", INDEX, Halls::stocked, h -> h.offered(-1));
        Calls.taken("14: place 0, without a draft", Halls::stocked, h -> h.offered(0));
        Calls.taken("14: place 0", Halls::busy, h -> h.offered(0));
        Calls.taken("14: a place far above", Halls::busy, h -> h.offered(Integer.MAX_VALUE));
        // The busy hall's draft is in its second round: packs of four with three left.
        Calls.range("15: place", INDEX, 0, 2, Halls::busy, (h, n) -> h.pick(n));
    }

    private static void swaps() {
        Calls.players("16: player", Halls::busy, (h, n) -> Halls.wish(h, n, 0, 1));
        Calls.range("16: gives", INDEX, 0, 5, Halls::busy, (h, n) -> Halls.wish(h, 0, n, 2));
        Calls.range("16: wants", INDEX, 0, 5, Halls::busy, (h, n) -> Halls.wish(h, 0, 2, n));
        for (int kind = 0; kind < 6; kind++) {
            int same = kind;
            Calls.refused("16: the same kinds, " + kind, ARGUMENT, Halls::busy, h -> Halls.wish(h, 0, same, same));
        }
        Calls.range("17: place", INDEX, 0, 5, Halls::busy, (h, n) -> h.ring(n));
        Calls.range("17: place, without a ring", INDEX, 0, 5, Sleevehall::new, (h, n) -> h.ring(n));
    }

    private static void pairs() {
        Calls.players("19: player", Halls::busy, (h, n) -> h.pair(n, 63));
        Calls.range("19: in", ARGUMENT, 0, 63, Halls::busy, (h, n) -> h.pair(0, n));
        Calls.players("20: winner", Halls::busy, (h, n) -> h.result(n, 2));
        Calls.players("20: loser", Halls::busy, (h, n) -> h.result(2, n));
        for (int player = 0; player < Halls.PLAYERS; player++) {
            int same = player;
            Calls.refused("20: the same players, " + player, ARGUMENT, Halls::busy, h -> h.result(same, same));
        }
    }

    private static void questions() {
        Calls.players("21: player", Halls::busy, (h, n) -> h.has(n, 0));
        Calls.kinds("21: kind", Halls::busy, (h, n) -> h.has(0, n));
        Calls.players("22: player", Halls::busy, (h, n) -> h.strength(n));
    }

    /** A list of kinds that is empty, or has one, or 20. */
    private static void withoutKinds() {
        Calls.refused("3: kind 0, without kinds", INDEX, Sleevehall::new, h -> h.ban(0, 0));
        Calls.refused("4: kind 0, without kinds", INDEX, Sleevehall::new, h -> h.get(0, 0, 1));
        Calls.refused("6: kind 0, without kinds", INDEX, Sleevehall::new, h -> h.play(0, 0, 0));
        Calls.refused("11: kind 0, without kinds", INDEX, Sleevehall::new, h -> h.put(0, 0));
        Calls.refused("13: without kinds", STATE, Sleevehall::new, h -> Halls.draft(h, 2, 3, 0));
        Calls.refused("16: kinds, without kinds", INDEX, Sleevehall::new, h -> Halls.wish(h, 0, 0, 1));
        Calls.refused("16: wants 1, with one kind", INDEX, () -> Halls.printed(1), h -> Halls.wish(h, 0, 0, 1));
        Calls.refused("16: gives 1, with one kind", INDEX, () -> Halls.printed(1), h -> Halls.wish(h, 0, 1, 0));
        Calls.taken("16: two kinds", () -> Halls.printed(2), h -> Halls.wish(h, 0, 1, 0));
        Calls.refused("21: kind 0, without kinds", INDEX, Sleevehall::new, h -> h.has(0, 0));
        Calls.taken("13: with one kind", () -> Halls.printed(1), h -> Halls.draft(h, 2, 3, 0));
        Calls.range("3: kind, of 20", INDEX, 0, 19, Halls::full, (h, n) -> h.ban(n, 3));
        Calls.range("4: kind, of 20", INDEX, 0, 19, Halls::full, (h, n) -> h.get(0, n, 1));
        Calls.range("16: gives, of 20", INDEX, 0, 19, Halls::full, (h, n) -> Halls.wish(h, 0, n, 2));
        Calls.range("16: wants, of 20", INDEX, 0, 19, Halls::full, (h, n) -> Halls.wish(h, 0, 2, n));
        Calls.range("21: kind, of 20", INDEX, 0, 19, Halls::full, (h, n) -> h.has(0, n));
    }

    /** What each method tells of an IllegalStateException, and the last state in which the call is taken. */
    private static void states() {
        Calls.refused("2: there are 20", STATE, Halls::full, h -> h.kind(0, 1));
        Calls.taken("2: there are 19", () -> Halls.printed(19), h -> h.kind(0, 1));
        Calls.refused("5: from 1000 to 1001", STATE, () -> Halls.late(0), h -> h.pass(1));
        Calls.taken("5: from 999 to 1000", () -> Halls.late(1), h -> h.pass(1));
        Calls.refused("5: from 999 to 1001", STATE, () -> Halls.late(1), h -> h.pass(2));
        Calls.taken("5: from 950 to 1000", () -> Halls.late(50), h -> h.pass(50));
        Calls.refused("5: from 950 to 1001", STATE, () -> Halls.late(50), h -> h.pass(51));
        Calls.refused("5: from 950 to 1050", STATE, () -> Halls.late(50), h -> h.pass(100));
        Calls.refused("6: there are 6", STATE, Halls::piled, h -> h.play(0, 0, 0));
        Calls.refused("6: not in the collection", STATE, () -> Halls.printed(6), h -> h.play(0, 0, 0));
        Calls.refused("6: banned", STATE, RefusedCallsTest::banned, h -> h.play(0, 2, 0));
        Calls.taken("6: banned tomorrow", Halls::busy, h -> h.play(0, Sleevehall.TWICE, 0));
        Calls.refused("7: it is empty", STATE, Halls::emptied, h -> h.top());
        Calls.refused("7: it was never otherwise", STATE, Sleevehall::new, h -> h.top());
        Calls.refused("11: it has 8", STATE, RefusedCallsTest::deckOfEight, h -> h.put(0, 4));
        Calls.refused("11: it has 3 of the kind", STATE, RefusedCallsTest::deckOfEight, h -> h.put(0, 0));
        Calls.refused("11: it has as many as there are", STATE, RefusedCallsTest::rare, h -> h.put(1, 6));
        Calls.refused("11: there are none", STATE, RefusedCallsTest::rare, h -> h.put(0, 6));
        Calls.refused("15: no draft was begun", STATE, Halls::stocked, h -> h.pick(0));
        Calls.refused("15: the draft is over", STATE, Halls::drafted, h -> h.pick(0));
    }

    /** A play by 0 against 1 of the effect, with the number 9 times two to the 27th: twice as much is no int. */
    private static Sleevehall great(int effect) {
        Sleevehall x = new Sleevehall();
        x.kind(effect, 9);
        x.kind(Sleevehall.TWICE, 1);
        x.get(0, 0, 1);
        x.get(0, 1, 1);
        playGreat(x);
        return x;
    }

    private static void playGreat(Sleevehall x) {
        x.play(0, 0, 1);
        for (int times = 0; times < 27; times++) {
            x.play(0, 1, 1);
            x.top();
        }
    }

    /** After one such play was done, another one. */
    private static Sleevehall greatAgain(int effect) {
        Sleevehall x = great(effect);
        x.top();
        playGreat(x);
        return x;
    }

    private static Sleevehall greatDoubled(int effect) {
        Sleevehall x = great(effect);
        x.play(0, 1, 5);
        return x;
    }

    /** "A life, a shield, or a number that would be no int refuses the doing". */
    private static void doings() {
        for (int effect : Halls.EFFECTS) {
            Calls.refused("7: a number, of the effect " + effect, STATE, () -> greatDoubled(effect), h -> h.top());
            Calls.taken("7: one doing, of the effect " + effect, () -> great(effect), h -> h.top());
        }
        Calls.refused("7: a life below", STATE, () -> greatAgain(Sleevehall.HIT), h -> h.top());
        Calls.refused("7: a life above", STATE, () -> greatAgain(Sleevehall.HEAL), h -> h.top());
        Calls.refused("7: a shield above", STATE, () -> greatAgain(Sleevehall.GUARD), h -> h.top());
        Calls.refused("7: a life below, with a shield", STATE, RefusedCallsTest::greatWithShield, h -> h.top());
    }

    /** The shield would take some of it, and the life what is left, were it not too much. */
    private static Sleevehall greatWithShield() {
        Sleevehall x = great(Sleevehall.HIT);
        x.top();
        x.kind(Sleevehall.GUARD, 9);
        x.get(2, 2, 1);
        x.play(2, 2, 1);
        x.top();
        playGreat(x);
        return x;
    }

    private static Sleevehall banned() {
        Sleevehall x = Halls.busy();
        x.ban(2, 3);
        return x;
    }

    private static Sleevehall deckOfEight() {
        Sleevehall x = Halls.busy();
        x.put(0, 0);
        x.put(0, 1);
        x.put(0, 2);
        x.put(0, 3);
        return x;
    }

    /** The kind 6 is had once, by the player 1, whose deck has it. */
    private static Sleevehall rare() {
        Sleevehall x = Halls.busy();
        x.kind(0, 1);
        x.get(1, 6, 1);
        x.put(1, 6);
        return x;
    }

    private static final int[] FAR = {-1, 6, Integer.MIN_VALUE, Integer.MAX_VALUE};
    private static final int[] SMALL_AND_LARGE = {Integer.MIN_VALUE, -1, 0, 101, Integer.MAX_VALUE};

    /** If several apply, the one that is named first is thrown. */
    private static void severalOfCards() {
        for (int wrong : FAR) {
            Calls.refused("2: effect, and 20", ARGUMENT, Halls::full, h -> h.kind(wrong, 1));
            Calls.refused("3: kind and day", INDEX, Halls::busy, h -> h.ban(wrong, 2));
            Calls.refused("3: kind and a late day", INDEX, Halls::busy, h -> h.ban(wrong, 1001));
            Calls.refused("4: player and many", INDEX, Halls::busy, h -> h.get(wrong, 0, 0));
            Calls.refused("4: kind and many", INDEX, Halls::busy, h -> h.get(0, wrong, 10));
            Calls.refused("4: all three", INDEX, Halls::busy, h -> h.get(wrong, wrong, wrong));
        }
        Calls.refused("2: number 0, and 20", ARGUMENT, Halls::full, h -> h.kind(0, 0));
        Calls.refused("2: number 10, and 20", ARGUMENT, Halls::full, h -> h.kind(0, 10));
        for (int wrong : SMALL_AND_LARGE) {
            Calls.refused("5: days, on the last day", ARGUMENT, () -> Halls.late(0), h -> h.pass(wrong));
        }
    }

    private static void severalOfStackAndDecks() {
        for (int wrong : FAR) {
            Calls.refused("6: player, and 6", INDEX, Halls::piled, h -> h.play(wrong, 0, 0));
            Calls.refused("6: kind, and 6", INDEX, Halls::piled, h -> h.play(0, wrong, 0));
            Calls.refused("6: against, and 6", INDEX, Halls::piled, h -> h.play(0, 0, wrong));
            Calls.refused("6: against, and not there", INDEX, () -> Halls.printed(6), h -> h.play(0, 0, wrong));
            Calls.refused("6: against, and banned", INDEX, RefusedCallsTest::banned, h -> h.play(0, 2, wrong));
            Calls.refused("11: player, and nothing there", INDEX, () -> Halls.printed(6), h -> h.put(wrong, 0));
            Calls.refused("11: kind, and it has 8", INDEX, RefusedCallsTest::deckOfEight, h -> h.put(0, wrong));
            Calls.refused("12: player and an early day", INDEX, Halls::busy, h -> Halls.isGood(h, wrong, 2));
            Calls.refused("12: player and a late day", INDEX, Halls::busy, h -> Halls.isGood(h, wrong, 1001));
        }
    }

    private static void severalOfDrafts() {
        for (int wrong : new int[] {Integer.MIN_VALUE, -1, 1, 7, Integer.MAX_VALUE}) {
            Calls.refused("13: players, no kinds", ARGUMENT, Sleevehall::new, h -> Halls.draft(h, wrong, 3, 0));
            Calls.refused("13: cards, no kinds", ARGUMENT, Sleevehall::new, h -> Halls.draft(h, 2, wrong, 0));
        }
        Calls.refused("13: x -1, no kinds", ARGUMENT, Sleevehall::new, h -> Halls.draft(h, 2, 3, -1));
        Calls.refused("13: x 65537, no kinds", ARGUMENT, Sleevehall::new, h -> Halls.draft(h, 2, 3, 65537));
        Calls.refused("15: place -1, no draft", INDEX, Halls::stocked, h -> h.pick(-1));
        Calls.refused("15: place -1, over", INDEX, Halls::drafted, h -> h.pick(-1));
        Calls.refused("15: place far below, over", INDEX, Halls::drafted, h -> h.pick(Integer.MIN_VALUE));
    }

    private static void severalOfSwapsAndPairs() {
        for (int wrong : FAR) {
            Calls.refused("16: player and the same", INDEX, Halls::busy, h -> Halls.wish(h, wrong, 0, 0));
            Calls.refused("16: the same wrong kind", INDEX, Halls::busy, h -> Halls.wish(h, 0, wrong, wrong));
            Calls.refused("19: player and in -1", INDEX, Halls::busy, h -> h.pair(wrong, -1));
            Calls.refused("19: player and in 64", INDEX, Halls::busy, h -> h.pair(wrong, 64));
            Calls.refused("20: the same wrong player", INDEX, Halls::busy, h -> h.result(wrong, wrong));
        }
    }
}
