import java.util.Random;

/** The edges that the document names of lives: promises 8 to 10, bounds of all orders and lives anew, a sentence a test. */
public final class EdgesOfLivesTest {
    private static final int HIT = Sleevehall.HIT;
    private static final int HEAL = Sleevehall.HEAL;
    private static final int GUARD = Sleevehall.GUARD;
    private static final int STOP = Sleevehall.STOP;
    private static final int TWICE = Sleevehall.TWICE;
    private static final int TURN = Sleevehall.TURN;
    private static final int NONE = Sleevehall.NONE;
    private static final int MOST_TRIED = 5;

    private EdgesOfLivesTest() {
    }

    public static void main(String[] args) {
        emptyStack();
        oneOfEachEffect();
        twoInBothOrders();
        stopInAnyOrder();
        fullStacks();
        allStacksUpToFive();
        greatStacksAgainstTheOracle();
        theStackAsItIs();
        lifeThatIsNone();
        allAboveNone();
        allBelowNone();
        refusedByALife();
        refusedByAShield();
        refusedByANumber();
        refusedOnTheWay();
        lifeAnewFromNothing();
        lifeAnewAskedAgain();
        lifeAnewOfEachPlay();
        lifeAnewOfEachStop();
        lifeAnewOfEachEffect();
        lifeAnewWithoutWhatWasRefused();
        Due.end();
    }

    private static int[] by(int player, int kind, int against) {
        return new int[] {player, kind, against};
    }

    /** A stocked hall with those plays, the lowest first. */
    private static Sleevehall with(int[]... plays) {
        Sleevehall x = Halls.stocked();
        for (int[] each : plays) {
            x.play(each[0], each[1], each[2]);
        }
        return x;
    }

    /** A stocked hall with so many plays of one kind and of another one, by the player 0 and 1, all against 3. */
    private static Sleevehall withMany(int many, int kind, int more, int other) {
        Sleevehall x = Halls.stocked();
        for (int times = 0; times < many; times++) {
            x.play(0, kind, 3);
        }
        for (int times = 0; times < more; times++) {
            x.play(1, other, 3);
        }
        return x;
    }

    private static void bounds(String what, int least, int greatest, Sleevehall x, int player) {
        Due.is(what + ", least", least, x.bound(player, false));
        Due.is(what + ", greatest", greatest, x.bound(player, true));
    }

    private static void doAll(Sleevehall x) {
        while (x.stacked() > 0) {
            x.top();
        }
    }

    private static void emptyStack() {
        Sleevehall x = with(by(0, HIT, 0), by(0, HEAL, 5), by(0, GUARD, 5));
        doAll(x);
        bounds("8: the life as it is, of the first one", 11, 11, x, 0);
        bounds("8: of another", 20, 20, x, 1);
        bounds("8: of the last one", 25, 25, x, 5);
        bounds("8: of a new object", 20, 20, new Sleevehall(), 5);
    }

    private static void oneOfEachEffect() {
        int[] lives = {11, 25, 20, 20, 20, 20};
        for (int effect : Halls.EFFECTS) {
            Sleevehall x = with(by(5, effect, 3));
            bounds("8: one play of the effect " + effect, lives[effect], lives[effect], x, 3);
            bounds("8: whom it is not against", 20, 20, x, 5);
        }
    }

    /** "if it lay in any order". */
    private static void twoInBothOrders() {
        bounds("8: HIT and GUARD", 11, 16, with(by(0, HIT, 0), by(0, GUARD, 0)), 0);
        bounds("8: GUARD and HIT", 11, 16, with(by(0, GUARD, 0), by(0, HIT, 0)), 0);
        bounds("8: HIT and TWICE", 2, 11, with(by(0, HIT, 0), by(0, TWICE, 0)), 0);
        bounds("8: TWICE and HIT", 2, 11, with(by(0, TWICE, 0), by(0, HIT, 0)), 0);
        bounds("8: HIT and TURN", 11, 29, with(by(0, HIT, 0), by(0, TURN, 0)), 0);
        bounds("8: TURN and HEAL", 15, 25, with(by(0, TURN, 0), by(0, HEAL, 0)), 0);
        bounds("8: GUARD and TURN", 20, 20, with(by(0, GUARD, 0), by(0, TURN, 0)), 0);
        bounds("8: HIT and HEAL", 16, 16, with(by(0, HIT, 0), by(0, HEAL, 0)), 0);
        bounds("8: TWICE and TURN", 20, 20, with(by(0, TWICE, 0), by(0, TURN, 0)), 0);
        bounds("8: HIT and GUARD of unlike ones", 11, 11, with(by(0, HIT, 0), by(0, GUARD, 1)), 0);
    }

    private static void stopInAnyOrder() {
        bounds("8: STOP and HIT", 11, 20, with(by(0, HIT, 3), by(1, STOP, 3)), 3);
        bounds("8: HIT and STOP", 11, 20, with(by(1, STOP, 3), by(0, HIT, 3)), 3);
        bounds("8: STOP of own ones alone", 11, 11, with(by(1, HIT, 3), by(1, STOP, 3)), 3);
        bounds("8: STOP of one of two", 11, 20, with(by(0, HIT, 3), by(2, HIT, 4), by(1, STOP, 3)), 3);
        bounds("8: STOP of either, or none", 11, 25, with(by(0, HIT, 3), by(2, HEAL, 3), by(1, STOP, 3)), 3);
        bounds("8: an own one is never off", 2, 11, with(by(1, HIT, 3), by(0, HIT, 3), by(1, STOP, 3)), 3);
        bounds("8: the same of HEAL", 25, 30, with(by(1, HEAL, 3), by(0, HEAL, 3), by(1, STOP, 3)), 3);
        bounds("8: STOP of a STOP", 11, 20, with(by(0, HIT, 3), by(0, STOP, 3), by(1, STOP, 3)), 3);
    }

    private static void fullStacks() {
        bounds("8: six HIT", 20 - 54, 20 - 54, withMany(3, HIT, 3, HIT), 3);
        bounds("8: one HIT, five TWICE: one alone can double it", 2, 11, withMany(1, HIT, 5, TWICE), 3);
        bounds("8: three HIT, three TWICE", 20 - 54, 20 - 27, withMany(3, HIT, 3, TWICE), 3);
        bounds("8: one HIT, five TURN", 11, 29, withMany(1, HIT, 5, TURN), 3);
        bounds("8: three HEAL, three TURN", 5, 35, withMany(3, HEAL, 3, TURN), 3);
        bounds("8: one HIT, five STOP", 11, 20, withMany(1, HIT, 5, STOP), 3);
        bounds("8: three HIT, three STOP", 20 - 27, 20, withMany(3, HIT, 3, STOP), 3);
        bounds("8: five HIT, one STOP", 20 - 45, 20 - 36, withMany(5, HIT, 1, STOP), 3);
        bounds("8: one HIT, five GUARD", 11, 20, withMany(1, HIT, 5, GUARD), 3);
        bounds("8: two HIT, four GUARD", 2, 20, withMany(2, HIT, 4, GUARD), 3);
        bounds("8: five HIT, one GUARD", 20 - 45, 20 - 40, withMany(5, HIT, 1, GUARD), 3);
        bounds("8: six of another's", 20, 20, withMany(3, HIT, 3, HEAL), 2);
    }

    /** Every stack of up to five plays of two players, with each effect, against the oracle that tries every order. */
    private static void allStacksUpToFive() {
        int[] plays = new int[MOST_TRIED];
        for (int many = 1; many <= MOST_TRIED; many++) {
            allStacks(plays, 0, many, 0);
        }
    }

    /** The order in which plays lie does not matter to a bound: each is to be no lower than the one before it. */
    private static void allStacks(int[] plays, int at, int many, int lowest) {
        if (at == many) {
            oneStack(plays, many);
            return;
        }
        for (int play = lowest; play < 2 * Halls.EFFECTS.length; play++) {
            plays[at] = play;
            allStacks(plays, at + 1, many, play);
        }
    }

    private static void oneStack(int[] plays, int many) {
        Both both = new Both(new int[] {9, 8, 7, 6, 5, 4});
        StringBuilder what = new StringBuilder("8: the stack");
        for (int at = 0; at < many; at++) {
            both.play(plays[at] % 2, plays[at] / 2, 3);
            what.append(" ").append(plays[at] % 2).append(":").append(plays[at] / 2);
        }
        both.bounds(what.toString(), 3);
    }

    /** The same calls on a hall and on the oracle, with a kind of each effect that the players 0 to 2 have. */
    private static final class Both {
        private final Sleevehall x = new Sleevehall();
        private final Oracle oracle = new Oracle();

        Both(int[] numbers) {
            for (int kind = 0; kind < Halls.EFFECTS.length; kind++) {
                x.kind(Halls.EFFECTS[kind], numbers[kind]);
                oracle.kind(Halls.EFFECTS[kind], numbers[kind]);
                for (int player = 0; player <= 2; player++) {
                    x.get(player, kind, 1);
                    oracle.get(player, kind, 1);
                }
            }
        }

        void play(int player, int kind, int against) {
            x.play(player, kind, against);
            oracle.play(player, kind, against);
        }

        boolean top() {
            String told = Due.told(() -> x.top());
            Due.same("7: top", Due.told(() -> oracle.top()), told);
            return !told.equals(Due.STATE);
        }

        /** A play whose number is doubled so often, or as often as it may be; it takes three places for a while. */
        void playGreat(int player, int kind, int against, int times) {
            play(player, kind, against);
            boolean isDoubled = true;
            for (int time = 0; isDoubled && time < times; time++) {
                play(0, TWICE, against);
                isDoubled = top();
            }
            if (!isDoubled) {
                play(1, STOP, against);
                top();
            }
        }

        void bounds(String what, int player) {
            EdgesOfLivesTest.bounds(what, oracle.bound(player, false), oracle.bound(player, true), x, player);
        }
    }

    /** Stacks of three to six plays, some of them with great numbers, so that many of their orders are refused. */
    private static void greatStacksAgainstTheOracle() {
        for (int seed = 0; seed < 600; seed++) {
            Random random = new Random(seed);
            Both both = new Both(random.ints(Halls.EFFECTS.length, 1, 10).toArray());
            for (int before = random.nextInt(3); before > 0; before--) {
                both.playGreat(0, random.nextInt(3), random.nextInt(2), 24 + random.nextInt(8));
                both.top();
            }
            int many = 3 + random.nextInt(4);
            while (both.x.stacked() < many) {
                int player = random.nextInt(3);
                int kind = random.nextInt(Halls.EFFECTS.length);
                if (both.x.stacked() < 4 && random.nextBoolean()) {
                    both.playGreat(player, kind, random.nextInt(2), 24 + random.nextInt(8));
                } else {
                    both.play(player, kind, random.nextInt(2));
                }
            }
            both.bounds("8: great stack, seed " + seed, 0);
            both.bounds("8: great stack, seed " + seed, 1);
        }
    }

    private static void theStackAsItIs() {
        Sleevehall x = with(by(0, HIT, 3), by(0, TWICE, 3));
        x.top();
        bounds("8: a HIT that was doubled", 2, 2, x, 3);
        x.play(1, TURN, 3);
        x.top();
        bounds("8: and turned", 38, 38, x, 3);
        x.play(1, STOP, 3);
        bounds("8: and may be off", 20, 38, x, 3);
        x.top();
        bounds("8: and is off", 20, 20, x, 3);
        Sleevehall shielded = with(by(0, GUARD, 3));
        shielded.top();
        shielded.play(0, HIT, 3);
        bounds("8: behind a shield that is there", 16, 16, shielded, 3);
        shielded.play(0, GUARD, 3);
        bounds("8: and one that may come", 16, 20, shielded, 3);
    }

    /** Kinds of all effects with the number 1, which the players 0 and 1 have; the player 2 was hit so often: its life. */
    private static Sleevehall ofOnes(int hits) {
        Sleevehall x = Halls.printed(6);
        for (int kind = 0; kind < 6; kind++) {
            x.get(0, kind, 1);
            x.get(1, kind, 1);
        }
        for (int times = 0; times < hits; times++) {
            x.play(0, HIT, 2);
            x.top();
        }
        return x;
    }

    /** Plays a card of the number 1 against 2, and makes two to the 30th of it. */
    private static void playGreat(Sleevehall x, int kind) {
        x.play(0, kind, 2);
        for (int times = 0; times < 30; times++) {
            x.play(0, TWICE, 2);
            x.top();
        }
    }

    private static void doGreat(Sleevehall x, int kind) {
        playGreat(x, kind);
        x.top();
    }

    /** "NONE if there is no other (a life may be that, too)". */
    private static void lifeThatIsNone() {
        Sleevehall x = ofOnes(21);
        bounds("8: a life of -1, and an empty stack", -1, -1, x, 2);
        x.play(0, HIT, 2);
        x.play(0, GUARD, 2);
        bounds("8: the greatest is -1", -2, -1, x, 2);
        Sleevehall least = ofOnes(20);
        least.play(0, HIT, 2);
        least.play(0, GUARD, 2);
        bounds("8: the least is -1", -1, 0, least, 2);
    }

    private static void allAboveNone() {
        bounds("8: above NONE", 11, 16, with(by(0, HIT, 0), by(0, GUARD, 0)), 0);
        Sleevehall x = ofOnes(19);
        x.play(0, HIT, 2);
        x.play(0, GUARD, 2);
        bounds("8: just above NONE", 0, 1, x, 2);
    }

    private static void allBelowNone() {
        Sleevehall x = ofOnes(22);
        x.play(0, HIT, 2);
        x.play(0, GUARD, 2);
        bounds("8: just below NONE", -3, -2, x, 2);
        Sleevehall wide = ofOnes(22);
        wide.play(0, HIT, 2);
        wide.play(0, TURN, 2);
        wide.play(0, TWICE, 2);
        bounds("8: on both sides of NONE", -4, 0, wide, 2);
    }

    /** The life of 2 is one too low to be hit by the great HIT on the stack. */
    private static Sleevehall oneTooLow() {
        Sleevehall x = ofOnes(21);
        doGreat(x, HIT);
        playGreat(x, HIT);
        return x;
    }

    /** "a way that is refused does not count". */
    private static void refusedByALife() {
        int low = -1 - (1 << 30);
        Sleevehall exact = ofOnes(20);
        doGreat(exact, HIT);
        playGreat(exact, HIT);
        bounds("8: the least int is no refusal", Integer.MIN_VALUE, Integer.MIN_VALUE, exact, 2);
        bounds("8: there is no other way", NONE, NONE, oneTooLow(), 2);
        bounds("8: nor is there for another player", NONE, NONE, oneTooLow(), 0);
        Sleevehall heal = oneTooLow();
        heal.play(0, HEAL, 2);
        bounds("8: HEAL first", Integer.MIN_VALUE, Integer.MIN_VALUE, heal, 2);
        bounds("8: HEAL first, another player", 20, 20, heal, 5);
        Sleevehall guard = oneTooLow();
        guard.play(0, GUARD, 2);
        bounds("8: GUARD first", Integer.MIN_VALUE, Integer.MIN_VALUE, guard, 2);
        Sleevehall stop = oneTooLow();
        stop.play(1, STOP, 2);
        bounds("8: STOP first", low, low, stop, 2);
        Sleevehall own = oneTooLow();
        own.play(0, STOP, 2);
        bounds("8: an own STOP stops nothing", NONE, NONE, own, 2);
        Sleevehall turn = oneTooLow();
        turn.play(1, TURN, 2);
        bounds("8: TURN first, and the life is -1", -1, -1, turn, 2);
        Sleevehall other = oneTooLow();
        other.play(1, HEAL, 3);
        bounds("8: HEAL of another", NONE, NONE, other, 2);
    }

    private static void refusedByAShield() {
        Sleevehall x = ofOnes(0);
        doGreat(x, GUARD);
        x.play(0, HIT, 2);
        x.top();
        doGreat(x, GUARD);
        bounds("8: the greatest shield", 20, 20, x, 2);
        x.play(0, GUARD, 2);
        bounds("8: one more is refused", NONE, NONE, x, 2);
        x.play(0, HIT, 2);
        bounds("8: but not after a HIT", 20, 20, x, 2);
        x.play(0, TWICE, 2);
        bounds("8: of which one is doubled, or none", 20, 20, x, 2);
        x.play(0, GUARD, 2);
        bounds("8: nor two after a HIT that is doubled", 20, 20, x, 2);
        x.play(0, GUARD, 2);
        bounds("8: but three", NONE, NONE, x, 2);
    }

    private static void refusedByANumber() {
        int great = 1 << 30;
        Sleevehall x = ofOnes(0);
        playGreat(x, HIT);
        bounds("8: the great HIT", 20 - great, 20 - great, x, 2);
        x.play(0, TWICE, 2);
        bounds("8: its double is refused", 20 - great, 20 - great, x, 2);
        x.play(0, HEAL, 2);
        bounds("8: a small HEAL's is not", 21 - great, 22 - great, x, 2);
        bounds("8: of another", 20, 20, x, 5);
        Sleevehall heal = ofOnes(0);
        playGreat(heal, HEAL);
        heal.play(1, TWICE, 2);
        heal.play(0, STOP, 2);
        bounds("8: STOP of the TWICE, or TWICE of no one or the STOP", 20 + great, 20 + great, heal, 2);
        Sleevehall stop = ofOnes(0);
        playGreat(stop, STOP);
        bounds("8: a STOP of a great number", 20, 20, stop, 2);
        stop.play(0, TWICE, 2);
        bounds("8: its double is refused, and TWICE may be below it", 20, 20, stop, 2);
    }

    /** A way is refused by each of its doings, wherever it would end. */
    private static void refusedOnTheWay() {
        Sleevehall x = ofOnes(21);
        doGreat(x, HEAL);
        doGreat(x, HEAL);
        bounds("8: the greatest int", Integer.MAX_VALUE, Integer.MAX_VALUE, x, 2);
        x.play(0, HEAL, 2);
        bounds("8: one more is refused", NONE, NONE, x, 2);
        x.play(0, HIT, 2);
        bounds("8: but not after a HIT", Integer.MAX_VALUE, Integer.MAX_VALUE, x, 2);
        x.play(0, TWICE, 2);
        bounds("8: nor after a doubled HIT", Integer.MAX_VALUE - 1, Integer.MAX_VALUE, x, 2);
        bounds("8: of another", 20, 20, x, 5);
        Sleevehall turn = ofOnes(21);
        doGreat(turn, HEAL);
        doGreat(turn, HEAL);
        turn.play(0, TURN, 2);
        bounds("8: TURN alone is no refusal", Integer.MAX_VALUE, Integer.MAX_VALUE, turn, 2);
        turn.play(0, HIT, 2);
        bounds("8: a HIT is not to be turned", Integer.MAX_VALUE - 1, Integer.MAX_VALUE - 1, turn, 2);
        turn.play(1, STOP, 2);
        bounds("8: but may be stopped", Integer.MAX_VALUE - 1, Integer.MAX_VALUE, turn, 2);
    }

    private static void lifeAnewFromNothing() {
        Sleevehall x = Halls.stocked();
        for (int player = 0; player < Halls.PLAYERS; player++) {
            Due.is("10: nothing was played", 20, x.lifeAnew(player));
        }
        for (int many = 1; many <= 6; many++) {
            x.play(0, HIT, 3);
            Due.is("10: nothing was done", 20, x.lifeAnew(3));
        }
        for (int done = 1; done <= 6; done++) {
            x.top();
            Due.is("10: so many were done", 20 - 9 * done, x.lifeAnew(3));
        }
    }

    /** What a life anew was found from is not there when it is found again. */
    private static void lifeAnewAskedAgain() {
        Sleevehall x = with(by(0, HIT, 3));
        x.top();
        for (int many = 1; many <= 6; many++) {
            x.play(1, HEAL, 4);
            Due.is("10: with so many on the stack", 11, x.lifeAnew(3));
            Due.is("10: asked again", 11, x.lifeAnew(3));
        }
        for (int done = 1; done <= 6; done++) {
            x.top();
            Due.is("10: with less and less", 20 + 5 * done, x.lifeAnew(4));
            Due.is("10: of another", 11, x.lifeAnew(3));
        }
    }

    private static void lifeAnewOfEachPlay() {
        Sleevehall x = new Sleevehall();
        for (int number = 1; number <= 9; number++) {
            x.kind(HIT, number);
            for (int player = 0; player < Halls.PLAYERS; player++) {
                x.get(player, number - 1, 1);
            }
        }
        int[] lives = {20, 20, 20, 20, 20, 20};
        for (int at = 0; at < Halls.PLAYERS * 9; at++) {
            int against = at * 5 % Halls.PLAYERS;
            int kind = at % 9;
            x.play(at / 9, kind, against);
            x.top();
            lives[against] -= kind + 1;
            Due.is("10: life anew", lives[against], x.lifeAnew(against));
        }
        for (int player = 0; player < Halls.PLAYERS; player++) {
            Due.is("10: of each player", lives[player], x.lifeAnew(player));
            Due.is("9: of each player", lives[player], x.life(player, false));
        }
    }

    private static void lifeAnewOfEachStop() {
        for (int stopper = 0; stopper < Halls.PLAYERS; stopper++) {
            for (int player = 0; player < Halls.PLAYERS; player++) {
                Sleevehall x = with(by(player, HIT, 0), by(stopper, STOP, 0));
                x.top();
                if (x.stacked() > 0) {
                    x.top();
                }
                String what = "a STOP by " + stopper + " of a HIT by " + player;
                Due.is("10: " + what, stopper == player ? 11 : 20, x.lifeAnew(0));
                Due.is("9: " + what, stopper == player ? 11 : 20, x.life(0, false));
            }
        }
    }

    private static void lifeAnewOfEachEffect() {
        Sleevehall x = with(by(0, HIT, 3), by(1, GUARD, 3), by(2, TWICE, 3));
        x.top();
        x.top();
        x.play(3, TURN, 3);
        x.top();
        x.play(3, HIT, 3);
        x.top();
        Due.is("10: a doubled GUARD takes all", 20, x.lifeAnew(3));
        x.top();
        Due.is("10: a turned HIT", 29, x.lifeAnew(3));
        x.play(4, HIT, 3);
        x.top();
        Due.is("10: what the shield has left", 21, x.lifeAnew(3));
        x.play(4, HEAL, 3);
        x.play(4, TURN, 3);
        x.top();
        x.top();
        Due.is("10: a turned HEAL", 16, x.lifeAnew(3));
        Due.is("9: it is the life", 16, x.life(3, false));
    }

    private static void lifeAnewWithoutWhatWasRefused() {
        Sleevehall x = oneTooLow();
        Due.refused("7: it is refused", Due.STATE, () -> x.top());
        Due.refused("6: a player that there is not", Due.INDEX, () -> x.play(6, HIT, 2));
        Due.is("10: as before", -1 - (1 << 30), x.lifeAnew(2));
        x.play(0, HEAL, 2);
        x.top();
        x.top();
        Due.is("10: done at last", Integer.MIN_VALUE, x.lifeAnew(2));
        Due.refused("7: it is empty", Due.STATE, () -> x.top());
        x.play(0, GUARD, 3);
        x.play(0, HIT, 3);
        Due.is("10: an empty stack's doing is none", 20, x.lifeAnew(3));
        x.top();
        Due.is("10: and what comes then is done", 19, x.lifeAnew(3));
    }
}
