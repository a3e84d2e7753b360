/** The edges that the document names of a new object and of cards: promises 1 to 5 and 21, a sentence a test. */
public final class EdgesOfCardsTest {
    private static final int HIT = Sleevehall.HIT;

    private EdgesOfCardsTest() {
    }

    public static void main(String[] args) {
        kindsAreNumberedFromNoneToTwenty();
        eachEffectAndNumberIsPrinted();
        bannedFromADayOn();
        bannedFromTheFirstAndTheLastDay();
        neverBanned();
        toldAgainTheLastCounts();
        daysAreCountedFromNone();
        passGoesUpToTheLastDay();
        passTakesOneToAHundred();
        playersAreSix();
        eachHasItsOwnCollection();
        banCountsPlayersWithTheKind();
        Due.end();
    }

    /** "Cards are kinds, numbered from 0, at most 20". */
    private static void kindsAreNumberedFromNoneToTwenty() {
        Sleevehall x = new Sleevehall();
        for (int many = 0; many < 20; many++) {
            int next = many;
            Due.refused("2: a kind that is not printed yet", Due.INDEX, () -> x.has(0, next));
            Due.is("2: the number of a kind", many, x.kind(many % 6, 1));
            Due.is("2: it is there", 0, x.has(0, many));
        }
        Due.refused("2: there are 20", Due.STATE, () -> x.kind(0, 1));
        Due.refused("2: and no more", Due.INDEX, () -> x.has(0, 20));
        Due.is("2: the last one is as the others", 9, x.get(5, 19, 9));
    }

    /** "each has an effect, 0 to 5, and a number, 1 to 9". */
    private static void eachEffectAndNumberIsPrinted() {
        for (int number = 1; number <= 9; number++) {
            Sleevehall x = new Sleevehall();
            for (int effect = HIT; effect <= Sleevehall.GUARD; effect++) {
                Due.is("2: kind", effect, x.kind(effect, number));
                x.get(0, effect, 1);
                x.play(0, effect, effect);
            }
            while (x.stacked() > 0) {
                x.top();
            }
            Due.is("2: HIT with its number", 20 - number, x.life(0, false));
            Due.is("2: HEAL with its number", 20 + number, x.life(1, false));
            Due.is("2: GUARD with its number", number, x.life(2, true));
        }
    }

    /** Has one kind that the player 0 plays, and may play again on each day. */
    private static Sleevehall withOneCard() {
        Sleevehall x = new Sleevehall();
        x.kind(HIT, 1);
        x.get(0, 0, 1);
        return x;
    }

    private static void mayPlay(String what, boolean may, Sleevehall x) {
        Due.same(what, may ? "1" : Due.STATE, Due.told(() -> x.play(0, 0, 1)));
        if (may) {
            x.top();
        }
    }

    /** "A kind can be banned from a day on". */
    private static void bannedFromADayOn() {
        Sleevehall x = withOneCard();
        x.ban(0, 3);
        x.pass(2);
        mayPlay("3: the day before", true, x);
        x.pass(1);
        mayPlay("3: the day", false, x);
        x.pass(1);
        mayPlay("3: the day after", false, x);
        x.pass(100);
        mayPlay("3: long after", false, x);
    }

    /** "day: today to 1000". */
    private static void bannedFromTheFirstAndTheLastDay() {
        Sleevehall first = withOneCard();
        first.ban(0, 0);
        mayPlay("3: banned from the day 0", false, first);
        first.pass(1);
        mayPlay("3: banned from the day 0, a day after", false, first);
        Sleevehall today = withOneCard();
        today.pass(7);
        Due.refused("3: from yesterday", Due.ARGUMENT, () -> today.ban(0, 6));
        mayPlay("3: from yesterday is none", true, today);
        today.ban(0, 7);
        mayPlay("3: from today", false, today);
        Sleevehall last = withOneCard();
        last.ban(0, 1000);
        passTo(last, 999);
        mayPlay("3: the day before the last one", true, last);
        last.pass(1);
        mayPlay("3: the last day", false, last);
        Due.refused("3: from a day after the last one", Due.ARGUMENT, () -> last.ban(0, 1001));
        Due.is("3: from the last day, on it", 0, last.ban(0, 1000));
    }

    private static void passTo(Sleevehall x, int day) {
        for (int hundreds = day / 100; hundreds > 0; hundreds--) {
            x.pass(100);
        }
        if (day % 100 > 0) {
            x.pass(day % 100);
        }
    }

    private static void neverBanned() {
        Sleevehall x = withOneCard();
        passTo(x, 1000);
        mayPlay("3: never banned, on the last day", true, x);
        for (int times = 0; times < 3; times++) {
            x.get(0, 0, 1);
            x.put(0, 0);
        }
        x.kind(HIT, 2);
        x.get(0, 1, 1);
        x.put(0, 1);
        Due.is("3: never banned, a deck on the last day", true, x.isGood(0, 1000));
    }

    /** "told again, the day told last counts". */
    private static void toldAgainTheLastCounts() {
        Sleevehall later = withOneCard();
        later.ban(0, 0);
        later.ban(0, 2);
        mayPlay("3: a later day told last", true, later);
        later.pass(2);
        mayPlay("3: that later day", false, later);
        later.ban(0, 3);
        mayPlay("3: a later day told when it is banned", true, later);
        Sleevehall earlier = withOneCard();
        earlier.ban(0, 9);
        earlier.ban(0, 1);
        mayPlay("3: an earlier day told last", true, earlier);
        earlier.pass(1);
        mayPlay("3: that earlier day", false, earlier);
        Sleevehall other = withOneCard();
        other.kind(HIT, 1);
        other.ban(1, 0);
        mayPlay("3: another kind's ban", true, other);
    }

    /** "Days are counted from 0", and "Begins on the day 0". */
    private static void daysAreCountedFromNone() {
        Sleevehall x = new Sleevehall();
        Due.refused("1: the day -1", Due.ARGUMENT, () -> Halls.isGood(x, 0, -1));
        Due.is("1: the day 0", 0, Halls.isGood(x, 0, 0));
        Due.is("5: the first day that comes", 1, x.pass(1));
        Due.refused("5: the day 0 is gone by", Due.ARGUMENT, () -> Halls.isGood(x, 0, 0));
        Due.is("5: the day 1", 0, Halls.isGood(x, 0, 1));
    }

    /** "IllegalStateException if it would be above 1000". */
    private static void passGoesUpToTheLastDay() {
        Sleevehall x = new Sleevehall();
        for (int hundreds = 1; hundreds <= 9; hundreds++) {
            Due.is("5: the day", 100 * hundreds, x.pass(100));
        }
        Due.is("5: by one", 901, x.pass(1));
        Due.refused("5: to 1001 by 100", Due.STATE, () -> x.pass(100));
        Due.is("5: to 1000 by 99", 1000, x.pass(99));
        Due.refused("5: to 1001 by 1", Due.STATE, () -> x.pass(1));
        Due.refused("5: to 1100", Due.STATE, () -> x.pass(100));
        Due.is("5: it is the day 1000", 0, Halls.isGood(x, 0, 1000));
        Due.refused("5: no more the day 999", Due.ARGUMENT, () -> Halls.isGood(x, 0, 999));
        Sleevehall even = new Sleevehall();
        passTo(even, 900);
        Due.is("5: to 1000 by 100", 1000, even.pass(100));
    }

    /** "days: 1 to 100". */
    private static void passTakesOneToAHundred() {
        Sleevehall x = new Sleevehall();
        Due.refused("5: 0 days", Due.ARGUMENT, () -> x.pass(0));
        Due.is("5: 1 day", 1, x.pass(1));
        Due.is("5: 100 days", 101, x.pass(100));
        Due.refused("5: 101 days", Due.ARGUMENT, () -> x.pass(101));
        Due.is("5: what was refused is not passed", 102, x.pass(1));
    }

    /** "Players are numbered 0 to 5; each has a life, 20 at first, a shield, 0 at first, and a strength, 1000 at first". */
    private static void playersAreSix() {
        Sleevehall x = Halls.printed(20);
        for (int player = 0; player <= 5; player++) {
            Due.is("1: life", 20, x.life(player, false));
            Due.is("1: life anew", 20, x.lifeAnew(player));
            Due.is("1: least life", 20, x.bound(player, false));
            Due.is("1: greatest life", 20, x.bound(player, true));
            Due.is("1: shield", 0, x.life(player, true));
            Due.is("1: strength", 1000, x.strength(player));
            for (int kind = 0; kind < 20; kind++) {
                Due.is("1: collection", 0, x.has(player, kind));
            }
        }
        Due.is("1: stack", 0, x.stacked());
    }

    /** "each has a collection, how many of each kind". */
    private static void eachHasItsOwnCollection() {
        Sleevehall x = Halls.printed(20);
        for (int player = 0; player <= 5; player++) {
            Due.is("4: of the first kind", 1 + player, x.get(player, 0, 1 + player));
            Due.is("4: of the last kind", 9, x.get(player, 19, 9));
            Due.is("4: and more of it", 18, x.get(player, 19, 9));
        }
        for (int player = 0; player <= 5; player++) {
            Due.is("21: of the first kind", 1 + player, x.has(player, 0));
            Due.is("21: of the second kind", 0, x.has(player, 1));
            Due.is("21: of the last kind but one", 0, x.has(player, 18));
            Due.is("21: of the last kind", 18, x.has(player, 19));
        }
    }

    /** "Returns how many players have a deck with it". */
    private static void banCountsPlayersWithTheKind() {
        Sleevehall x = Halls.printed(20);
        for (int player = 0; player <= 5; player++) {
            x.get(player, 0, 3);
            x.get(player, 19, 3);
            Due.is("3: players so far", player, x.ban(19, 1000));
            x.put(player, 19);
            Due.is("3: one more with one card of it", player + 1, x.ban(19, 1000));
            x.put(player, 19);
            x.put(player, 19);
            Due.is("3: the same one with three cards of it", player + 1, x.ban(19, 1000));
        }
        Due.is("3: in collections, but in no deck", 0, x.ban(0, 1000));
        Due.is("3: a ban takes none out of a deck", 6, x.ban(19, 0));
    }
}
