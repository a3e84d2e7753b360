/** The edges that the document names of plays and of their doing: promises 6, 7, 9, 10 and 23, a sentence a test. */
public final class EdgesOfStackTest {
    private static final int HIT = Sleevehall.HIT;
    private static final int HEAL = Sleevehall.HEAL;
    private static final int GUARD = Sleevehall.GUARD;
    private static final int STOP = Sleevehall.STOP;
    private static final int TWICE = Sleevehall.TWICE;
    private static final int TURN = Sleevehall.TURN;

    private EdgesOfStackTest() {
    }

    public static void main(String[] args) {
        cardIsInTheCollection();
        notBannedToday();
        atMostSix();
        fromSixToNone();
        firstAndLastPlayer();
        hitAgainstEachShield();
        hitThroughNone();
        healAndGuard();
        stopOfNone();
        stopOfTheNearest();
        stopBelowOwnOnes();
        stopOfEachEffect();
        twiceOfNone();
        twiceOfTheNextOne();
        turnOfNone();
        turnOfAllBelow();
        theStackAsItIsThen();
        greatestNumber();
        greatestOfEachNumber();
        leastLife();
        greatestLife();
        greatestShield();
        refusedChangesNothing();
        lifeAnewAtTheLastCall();
        Due.end();
    }

    /** Plays those kinds of a stocked hall, the lowest first; each is a player, the kind, and whom it is against. */
    private static Sleevehall with(int[]... plays) {
        Sleevehall x = Halls.stocked();
        for (int at = 0; at < plays.length; at++) {
            Due.is("6: how many there are", at + 1, x.play(plays[at][0], plays[at][1], plays[at][2]));
        }
        return x;
    }

    private static int[] by(int player, int kind, int against) {
        return new int[] {player, kind, against};
    }

    /** Does all of the stack, and tells how many plays were on it after each doing. */
    private static String doAll(Sleevehall x) {
        StringBuilder counts = new StringBuilder();
        while (x.stacked() > 0) {
            counts.append(x.top());
        }
        return counts.toString();
    }

    private static void lives(String what, Sleevehall x, int... want) {
        for (int player = 0; player < want.length; player++) {
            Due.is(what + ", life of " + player, want[player], x.life(player, false));
            Due.is(what + ", life anew of " + player, want[player], x.lifeAnew(player));
        }
    }

    /** "of a card that is in the collection (it stays there)". */
    private static void cardIsInTheCollection() {
        Sleevehall x = Halls.printed(2);
        Due.refused("6: none of it", Due.STATE, () -> x.play(0, 0, 1));
        x.get(0, 0, 1);
        Due.refused("6: none of another kind", Due.STATE, () -> x.play(0, 1, 1));
        Due.refused("6: none of another player's", Due.STATE, () -> x.play(1, 0, 1));
        for (int many = 1; many <= 6; many++) {
            Due.is("6: one of it", many, x.play(0, 0, 1));
            Due.is("6: it stays there", 1, x.has(0, 0));
        }
        x.top();
        x.get(1, 1, 1);
        x.wish(0, 0, 1);
        x.wish(1, 1, 0);
        x.swap();
        Due.refused("6: the last one was swapped away", Due.STATE, () -> x.play(0, 0, 1));
        Due.is("6: the one that came by the swap", 6, x.play(1, 0, 1));
    }

    /** "and not banned today". */
    private static void notBannedToday() {
        Sleevehall x = Halls.stocked();
        x.pass(5);
        x.ban(HIT, 6);
        Due.is("6: banned from tomorrow", 1, x.play(0, HIT, 1));
        x.pass(1);
        Due.refused("6: banned from today", Due.STATE, () -> x.play(0, HIT, 1));
        Due.is("6: another kind", 2, x.play(0, HEAL, 1));
        Due.is("7: what lies there is done", 1, x.top());
        Due.is("7: what lies there is done, though banned", 0, x.top());
        lives("7: a HEAL and a banned HIT", x, 20, 16);
    }

    /** "the stack has at most 6", "IllegalStateException if .. there are 6". */
    private static void atMostSix() {
        Sleevehall x = Halls.stocked();
        for (int many = 0; many < 6; many++) {
            Due.is("23: stacked", many, x.stacked());
            Due.is("6: how many there are then", many + 1, x.play(many, many % 3, 5 - many));
        }
        for (int kind = 0; kind < 6; kind++) {
            int any = kind;
            Due.refused("6: a seventh", Due.STATE, () -> x.play(0, any, 0));
        }
        Due.is("23: stacked", 6, x.stacked());
        Due.is("7: one is done", 5, x.top());
        Due.is("6: a sixth again", 6, x.play(0, HIT, 0));
        Due.refused("6: a seventh again", Due.STATE, () -> x.play(0, HIT, 0));
    }

    /** "The top one is done, and is off then"; "IllegalStateException if it is empty". */
    private static void fromSixToNone() {
        Sleevehall x = with(by(0, HIT, 0), by(1, HIT, 1), by(2, HIT, 2), by(3, HIT, 3), by(4, HIT, 4), by(5, HIT, 5));
        for (int left = 5; left >= 0; left--) {
            Due.is("7: the top one is done", left, x.top());
            Due.is("23: and is off", left, x.stacked());
            Due.is("7: it is the top one", 11, x.life(left, false));
            Due.is("7: and no other", left == 0 ? 11 : 20, x.life(left == 0 ? 1 : left - 1, false));
        }
        Due.refused("7: it is empty", Due.STATE, () -> x.top());
        lives("7: nothing is done two times", x, 11, 11, 11, 11, 11, 11);
        Due.refused("7: it was never otherwise", Due.STATE, () -> new Sleevehall().top());
    }

    private static void firstAndLastPlayer() {
        Sleevehall x = with(by(0, HIT, 5), by(5, HIT, 0), by(5, HEAL, 5), by(0, GUARD, 0));
        doAll(x);
        lives("7: of 0 and 5", x, 16, 20, 20, 20, 20, 16);
        Due.is("7: the shield is gone", 0, x.life(0, true));
    }

    /** "the shield of the one against whom it is takes of its number what it has, the rest is taken from the life". */
    private static void hitAgainstEachShield() {
        for (int shield = 0; shield <= 7; shield++) {
            Sleevehall x = new Sleevehall();
            x.kind(HIT, 5);
            x.kind(GUARD, 1);
            x.get(0, 0, 1);
            x.get(0, 1, 1);
            for (int times = 0; times < shield; times++) {
                x.play(0, 1, 3);
                x.top();
            }
            x.play(0, 0, 3);
            x.top();
            Due.is("7: the rest is taken from the life, shield " + shield, 20 - Math.max(0, 5 - shield), x.life(3, false));
            Due.is("7: what the shield has left of " + shield, Math.max(0, shield - 5), x.life(3, true));
            Due.is("7: the own shield takes nothing", 20, x.life(0, false));
        }
    }

    private static void hitThroughNone() {
        Sleevehall x = new Sleevehall();
        x.kind(HIT, 4);
        x.get(0, 0, 1);
        for (int life = 16; life >= -8; life -= 4) {
            x.play(0, 0, 1);
            x.top();
            Due.is("9: a life may be 0 and below", life, x.life(1, false));
            Due.is("9: a shield is not", 0, x.life(1, true));
        }
    }

    /** "the life is more by its number", "the shield is more by its number". */
    private static void healAndGuard() {
        Sleevehall x = with(by(0, HEAL, 1), by(0, GUARD, 2), by(0, GUARD, 2), by(0, HEAL, 1));
        doAll(x);
        lives("7: HEAL twice", x, 20, 30, 20);
        Due.is("7: GUARD twice", 10, x.life(2, true));
        Due.is("7: HEAL is no shield", 0, x.life(1, true));
        Sleevehall below = with(by(0, HEAL, 1), by(0, HIT, 1), by(0, HIT, 1), by(0, HIT, 1));
        doAll(below);
        lives("7: HEAL of a life below 0", below, 20, -2);
    }

    /** "without such a one they do nothing". */
    private static void stopOfNone() {
        Due.same("7: STOP of an empty rest", "0", doAll(with(by(0, STOP, 1))));
        Sleevehall own = with(by(1, HIT, 0), by(1, HIT, 2), by(1, STOP, 0));
        Due.same("7: STOP above own ones alone", "210", doAll(own));
        lives("7: own ones are done", own, 11, 20, 11);
        Sleevehall against = with(by(1, HIT, 0), by(1, STOP, 0));
        Due.same("7: of an own one against another", "10", doAll(against));
        lives("7: it is done", against, 11);
    }

    /** "of those below it by another player the nearest one". */
    private static void stopOfTheNearest() {
        Sleevehall x = with(by(0, HIT, 0), by(2, HIT, 2), by(3, HIT, 3), by(4, HIT, 4), by(5, HIT, 5), by(1, STOP, 1));
        Due.same("7: one less", "43210", doAll(x));
        lives("7: the nearest of five", x, 11, 20, 11, 11, 11, 20);
        Sleevehall two = with(by(0, HIT, 0), by(1, STOP, 1));
        Due.same("7: the only one", "0", doAll(two));
        lives("7: it is undone", two, 20);
    }

    /** "also below own ones, is off, undone". */
    private static void stopBelowOwnOnes() {
        Sleevehall x = with(by(0, HIT, 0), by(1, HIT, 1), by(1, HIT, 2), by(1, HIT, 3), by(1, HIT, 4), by(1, STOP, 5));
        Due.same("7: the lowest of six", "43210", doAll(x));
        lives("7: below four own ones", x, 20, 11, 11, 11, 11);
        Sleevehall between = with(by(0, HIT, 0), by(2, HIT, 2), by(1, HIT, 1), by(1, STOP, 5));
        Due.same("7: between others", "210", doAll(between));
        lives("7: the higher one of two", between, 11, 11, 20);
    }

    private static void stopOfEachEffect() {
        for (int effect : Halls.EFFECTS) {
            Sleevehall x = with(by(0, HIT, 3), by(1, effect, 3), by(0, STOP, 3));
            Due.same("7: STOP of the effect " + effect, "10", doAll(x));
            lives("7: it is undone", x, 20, 20, 20, 11);
            Due.is("7: with its shield", 0, x.life(3, true));
        }
    }

    private static void twiceOfNone() {
        Sleevehall x = with(by(0, TWICE, 1));
        Due.same("7: TWICE of an empty rest", "0", doAll(x));
        x.play(0, HIT, 1);
        x.top();
        lives("7: a later one is not doubled", x, 20, 11);
    }

    /** "the next one below has its number doubled". */
    private static void twiceOfTheNextOne() {
        Sleevehall x = with(by(0, HEAL, 0), by(1, HIT, 1), by(2, TWICE, 2));
        Due.same("7: nothing but TWICE is off", "210", doAll(x));
        lives("7: the next one, and no other", x, 25, 2);
        Sleevehall guard = with(by(0, GUARD, 4), by(0, TWICE, 4));
        doAll(guard);
        Due.is("7: GUARD doubled", 10, guard.life(4, true));
        Sleevehall five = with(by(0, HEAL, 0), by(0, TWICE, 1), by(0, TWICE, 1), by(0, TWICE, 1), by(0, TWICE, 1));
        doAll(five);
        lives("7: of four TWICE the lowest alone doubles it", five, 30);
        Sleevehall own = with(by(0, HIT, 3), by(0, TWICE, 3));
        doAll(own);
        lives("7: an own one, too", own, 20, 20, 20, 2);
    }

    private static void turnOfNone() {
        Sleevehall x = with(by(0, TURN, 1));
        Due.same("7: TURN of an empty rest", "0", doAll(x));
        x.play(0, HIT, 1);
        x.top();
        lives("7: a later one is not turned", x, 20, 11);
        Sleevehall others = with(by(0, HIT, 2), by(0, GUARD, 1), by(1, STOP, 1), by(0, TWICE, 1), by(0, TURN, 1));
        Due.same("7: TURN of a TWICE, a STOP and a GUARD", "4310", doAll(others));
        Due.is("7: they are as they were", 0, others.life(1, true));
        lives("7: but HIT is HEAL", others, 20, 20, 29);
    }

    /** "all below that are HIT become HEAL, and HEAL HIT". */
    private static void turnOfAllBelow() {
        Sleevehall x = with(by(0, HIT, 0), by(1, HEAL, 1), by(2, HIT, 2), by(3, HEAL, 3), by(4, HIT, 4), by(5, TURN, 5));
        Due.same("7: nothing but TURN is off", "543210", doAll(x));
        lives("7: the five below", x, 29, 15, 29, 15, 29, 20);
        Sleevehall two = with(by(0, HIT, 0), by(1, HEAL, 1), by(2, TURN, 2), by(2, HIT, 2), by(3, TURN, 3));
        doAll(two);
        lives("7: turned once, and turned two times", two, 11, 25, 29);
    }

    /** "STOP, TWICE and TURN look at the stack as it is then". */
    private static void theStackAsItIsThen() {
        Sleevehall twice = with(by(2, HIT, 2), by(1, HIT, 1), by(0, TWICE, 0), by(0, STOP, 0));
        Due.same("7: a STOP, then a TWICE", "210", doAll(twice));
        lives("7: TWICE doubles the one that is next then", twice, 20, 20, 2);
        Sleevehall stop = with(by(2, HIT, 2), by(1, HIT, 1), by(0, STOP, 0), by(0, STOP, 0));
        Due.same("7: two STOP", "20", doAll(stop));
        lives("7: the second one looks at what is left", stop, 20, 20, 20);
        Sleevehall turn = with(by(2, HEAL, 2), by(1, HIT, 1), by(0, TURN, 0), by(0, STOP, 0));
        Due.same("7: a STOP, then a TURN", "210", doAll(turn));
        lives("7: TURN looks at what is left", turn, 20, 20, 15);
        Sleevehall undone = with(by(0, HIT, 2), by(1, STOP, 1), by(2, STOP, 2));
        Due.same("7: a STOP of a STOP", "10", doAll(undone));
        lives("7: what is off does nothing", undone, 20, 20, 11);
        Sleevehall turned = with(by(0, HEAL, 2), by(0, TWICE, 1), by(0, TURN, 2));
        doAll(turned);
        lives("7: turned and doubled", turned, 20, 20, 10);
    }

    /** Kinds of all effects with the number 1, which the player 0 has: 12 calls. */
    private static Sleevehall ofOnes() {
        Sleevehall x = Halls.printed(6);
        for (int kind = 0; kind < 6; kind++) {
            x.get(0, kind, 1);
        }
        return x;
    }

    private static void doOnce(Sleevehall x, int kind) {
        x.play(0, kind, 1);
        x.top();
    }

    /** Plays a card of the number 1, and doubles it so often. */
    private static void playDoubled(Sleevehall x, int kind, int times) {
        x.play(0, kind, 1);
        for (int time = 0; time < times; time++) {
            doOnce(x, TWICE);
        }
    }

    private static void doDoubled(Sleevehall x, int kind, int times) {
        playDoubled(x, kind, times);
        x.top();
    }

    /** "A .. number that would be no int refuses the doing". */
    private static void greatestNumber() {
        for (int effect : Halls.EFFECTS) {
            Sleevehall x = ofOnes();
            playDoubled(x, effect, 30);
            x.play(0, TWICE, 1);
            Due.refused("7: two to the 31st, of the effect " + effect, Due.STATE, () -> x.top());
            Due.refused("7: again", Due.STATE, () -> x.top());
            Due.is("7: TWICE is still there", 2, x.stacked());
            x.get(1, STOP, 1);
            x.play(1, STOP, 1);
            Due.is("7: STOP takes it off", 1, x.top());
            Due.is("7: two to the 30th", 0, x.top());
            int great = 1 << 30;
            Due.is("7: its life", effect == HIT ? 20 - great : effect == HEAL ? 20 + great : 20, x.life(1, false));
            Due.is("7: its shield", effect == GUARD ? great : 0, x.life(1, true));
        }
    }

    /** The same of each number: it is doubled as long as its double is an int. */
    private static void greatestOfEachNumber() {
        for (int number = 1; number <= 9; number++) {
            Sleevehall x = new Sleevehall();
            x.kind(GUARD, number);
            x.kind(TWICE, number);
            x.get(0, 0, 1);
            x.get(0, 1, 1);
            x.play(0, 0, 1);
            long great = number;
            while (2 * great <= Integer.MAX_VALUE) {
                x.play(0, 1, 1);
                Due.is("7: it is doubled", 1, x.top());
                great *= 2;
            }
            x.play(0, 1, 1);
            Due.refused("7: its double would be no int", Due.STATE, () -> x.top());
            x.kind(STOP, 1);
            x.get(2, 2, 1);
            x.play(2, 2, 1);
            x.top();
            x.top();
            Due.is("7: the greatest of " + number, great, x.life(1, true));
        }
    }

    /** "A life .. that would be no int refuses the doing": the least one. */
    private static void leastLife() {
        Sleevehall x = ofOnes();
        for (int times = 0; times < 20; times++) {
            doOnce(x, HIT);
        }
        doDoubled(x, HIT, 30);
        doDoubled(x, HIT, 30);
        Due.is("7: the least int", Integer.MIN_VALUE, x.life(1, false));
        x.play(0, HIT, 1);
        Due.refused("7: below it", Due.STATE, () -> x.top());
        Due.is("7: it stays", Integer.MIN_VALUE, x.life(1, false));
        Due.is("10: anew", Integer.MIN_VALUE, x.lifeAnew(1));
        Due.is("8: no way", Sleevehall.NONE, x.bound(1, false));
        x.play(0, GUARD, 1);
        Due.is("8: the shield first", Integer.MIN_VALUE, x.bound(1, false));
        Due.is("7: a shield", 1, x.top());
        Due.is("7: takes all of it", 0, x.top());
        Due.is("7: the least int still", Integer.MIN_VALUE, x.life(1, false));
        Due.is("7: the shield is gone", 0, x.life(1, true));
    }

    /** "A life .. that would be no int refuses the doing": the greatest one. */
    private static void greatestLife() {
        Sleevehall x = ofOnes();
        for (int times = 0; times < 21; times++) {
            doOnce(x, HIT);
        }
        Due.is("9: the life is NONE's number", -1, x.life(1, false));
        doDoubled(x, HEAL, 30);
        doDoubled(x, HEAL, 30);
        Due.is("7: the greatest int", Integer.MAX_VALUE, x.life(1, false));
        x.play(0, HEAL, 1);
        Due.refused("7: above it", Due.STATE, () -> x.top());
        Due.is("7: it stays", Integer.MAX_VALUE, x.life(1, false));
        Due.is("10: anew", Integer.MAX_VALUE, x.lifeAnew(1));
        x.play(0, TURN, 1);
        Due.is("7: turned", 1, x.top());
        Due.is("7: it is no more refused", 0, x.top());
        Due.is("7: one less", Integer.MAX_VALUE - 1, x.life(1, false));
        doOnce(x, HEAL);
        Due.is("7: the greatest int again", Integer.MAX_VALUE, x.life(1, false));
    }

    /** "a shield .. that would be no int refuses the doing". */
    private static void greatestShield() {
        Sleevehall x = ofOnes();
        doDoubled(x, GUARD, 30);
        doOnce(x, HIT);
        doDoubled(x, GUARD, 30);
        Due.is("7: the greatest shield", Integer.MAX_VALUE, x.life(1, true));
        x.play(0, GUARD, 1);
        Due.refused("7: above it", Due.STATE, () -> x.top());
        Due.is("7: it stays", Integer.MAX_VALUE, x.life(1, true));
        x.play(0, HIT, 1);
        x.top();
        Due.is("7: one less", Integer.MAX_VALUE - 1, x.life(1, true));
        Due.is("7: then it is no more refused", 0, x.top());
        Due.is("7: the greatest again", Integer.MAX_VALUE, x.life(1, true));
        Due.is("7: the life is as it was", 20, x.life(1, false));
        doDoubled(x, HIT, 30);
        Due.is("7: a great HIT on it", Integer.MAX_VALUE - (1 << 30), x.life(1, true));
        Due.is("7: takes no life", 20, x.life(1, false));
    }

    /** "IllegalStateException if it is empty, or it is refused": and nothing is changed. */
    private static void refusedChangesNothing() {
        Sleevehall x = ofOnes();
        doDoubled(x, HIT, 30);
        playDoubled(x, HIT, 30);
        Due.is("7: the shield was none", 0, x.life(1, true));
        doOnce(x, GUARD);
        x.play(0, HIT, 2);
        Due.is("7: one above it is done", 1, x.top());
        Due.is("7: down to the least int but some", 20 - (1 << 30), x.life(1, false));
        Due.is("7: with the shield's help", 0, x.top());
        Due.is("7: all but the shield's one", 20 + 1 - (1 << 30) - (1 << 30), x.life(1, false));
        playDoubled(x, GUARD, 2);
        x.top();
        playDoubled(x, HIT, 5);
        Due.refused("7: more than life and shield can take", Due.STATE, () -> x.top());
        Due.is("7: the shield is not taken", 4, x.life(1, true));
        Due.is("7: nor is the life", 21 - (1 << 31), x.life(1, false));
        Due.is("10: anew", 21 - (1 << 31), x.lifeAnew(1));
        Due.is("8: no way", Sleevehall.NONE, x.bound(0, true));
    }

    /** "An object is used for at most 512 calls", and "found from all that was played and done". */
    private static void lifeAnewAtTheLastCall() {
        Sleevehall x = new Sleevehall();
        x.kind(HIT, 1);
        x.get(0, 0, 1);
        for (int times = 0; times < 254; times++) {
            x.play(0, 0, 5);
            x.top();
        }
        x.play(0, 0, 5);
        Due.is("10: after 511 calls", 20 - 254, x.lifeAnew(5));
    }
}
