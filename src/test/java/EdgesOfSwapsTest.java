/** The edges that the document names of swaps: promises 16 to 18, a sentence a test. */
public final class EdgesOfSwapsTest {
    private static final int NONE = Sleevehall.NONE;

    private EdgesOfSwapsTest() {
    }

    public static void main(String[] args) {
        noWish();
        atMostOneWish();
        firstAndLastKind();
        ringsOfTwoToSix();
        ringOfEachTwo();
        chainThatDoesNotClose();
        allHavingWhatTheyGive();
        oneOfManyHasNone();
        fewestPlayers();
        lowestFirstPlayer();
        lowestAtEachPlace();
        beginsWithItsLowest();
        wishesInItAreOver();
        wishesOutsideStay();
        swapsUntilNoneIsLeft();
        toldAgainAfterASwap();
        Due.end();
    }

    /** So many kinds, of which all players have one each. */
    private static Sleevehall withOneOfEach(int kinds) {
        Sleevehall x = Halls.printed(kinds);
        for (int player = 0; player < Halls.PLAYERS; player++) {
            for (int kind = 0; kind < kinds; kind++) {
                x.get(player, kind, 1);
            }
        }
        return x;
    }

    /** The best ring is this, at all places. */
    private static void ring(String what, Sleevehall x, int... players) {
        for (int place = 0; place < Halls.PLAYERS; place++) {
            Due.is(what + ", place " + place, place < players.length ? players[place] : NONE, x.ring(place));
        }
    }

    /** Makes a ring of these, with kinds from the first one on: the one at a place gives that kind to the next one. */
    private static void wishRing(Sleevehall x, int firstKind, int... players) {
        int many = players.length;
        for (int at = 0; at < many; at++) {
            x.wish(players[at], firstKind + at, firstKind + (at + many - 1) % many);
        }
    }

    private static void noWish() {
        Sleevehall x = withOneOfEach(2);
        ring("17: no wish", x);
        Due.is("18: no wish", 0, x.swap());
        ring("17: no kinds", new Sleevehall());
        Due.is("18: no kinds", 0, new Sleevehall().swap());
        x.wish(0, 0, 1);
        ring("17: one wish", x);
        Due.is("18: one wish", 0, x.swap());
        x.wish(1, 1, 0);
        ring("17: it is there still", x, 0, 1);
    }

    /** "a player has at most one", "in place of another one". */
    private static void atMostOneWish() {
        Sleevehall x = withOneOfEach(3);
        x.wish(0, 0, 1);
        x.wish(1, 1, 0);
        ring("16: both wish", x, 0, 1);
        x.wish(0, 2, 1);
        ring("16: another one that gives other", x);
        x.wish(0, 0, 2);
        ring("16: another one that wants other", x);
        x.wish(0, 0, 1);
        ring("16: the first one again", x, 0, 1);
        x.wish(1, 0, 1);
        ring("16: the other way round", x);
        x.wish(0, 1, 0);
        ring("16: both the other way round", x, 0, 1);
        Due.is("18: swapped", 2, x.swap());
        Due.is("18: by the wish that was told last", 2, x.has(0, 0));
        Due.is("18: and not by the first one", 0, x.has(0, 1));
    }

    private static void firstAndLastKind() {
        Sleevehall x = Halls.printed(20);
        x.get(0, 0, 1);
        x.get(5, 19, 1);
        x.wish(0, 0, 19);
        x.wish(5, 19, 0);
        ring("17: the first and the last player", x, 0, 5);
        Due.is("18: the first and the last kind", 2, x.swap());
        Due.is("18: gives the first one", 0, x.has(0, 0));
        Due.is("18: gets the last one", 1, x.has(0, 19));
        Due.is("18: gets the first one", 1, x.has(5, 0));
        Due.is("18: gives the last one", 0, x.has(5, 19));
    }

    /** "with the fewest players, at least 2", and 6 at most, as there are no more. */
    private static void ringsOfTwoToSix() {
        int[] order = {0, 4, 2, 5, 1, 3};
        for (int many = 2; many <= 6; many++) {
            Sleevehall x = withOneOfEach(6);
            int[] players = new int[many];
            System.arraycopy(order, 0, players, 0, many);
            wishRing(x, 0, players);
            ring("17: a ring of " + many, x, players);
            Due.is("18: so many players", many, x.swap());
            for (int at = 0; at < many; at++) {
                gaveAndGot(x, players[at], at, (at + many - 1) % many);
            }
            ring("17: the wishes are over", x);
        }
    }

    /** One who had one of each kind has one less of what is given, and one more of what is got. */
    private static void gaveAndGot(Sleevehall x, int player, int given, int got) {
        for (int kind = 0; kind < 6; kind++) {
            int want = 1 - (kind == given ? 1 : 0) + (kind == got ? 1 : 0);
            Due.is("18: the kind " + kind + " of " + player, want, x.has(player, kind));
        }
    }

    private static void ringOfEachTwo() {
        for (int first = 0; first < Halls.PLAYERS; first++) {
            for (int second = first + 1; second < Halls.PLAYERS; second++) {
                Sleevehall x = withOneOfEach(2);
                x.wish(second, 0, 1);
                x.wish(first, 1, 0);
                ring("17: a ring of two", x, first, second);
                Due.is("18: a ring of two", 2, x.swap());
            }
        }
    }

    /** "each of whom gives what the next one wishes for, and the last one what the first one does". */
    private static void chainThatDoesNotClose() {
        for (int many = 2; many <= 6; many++) {
            Sleevehall x = withOneOfEach(8);
            for (int player = 0; player < many; player++) {
                x.wish(player, 1 + player, player);
            }
            ring("17: a chain of " + many, x);
            Due.is("18: a chain of " + many, 0, x.swap());
            Due.is("18: nothing is given", 1, x.has(0, 1));
            x.wish(0, 1, many);
            int[] all = {0, 1, 2, 3, 4, 5};
            int[] players = new int[many];
            System.arraycopy(all, 0, players, 0, many);
            ring("17: that closes", x, players);
        }
        Sleevehall alike = withOneOfEach(2);
        for (int player = 0; player < Halls.PLAYERS; player++) {
            alike.wish(player, 0, 1);
        }
        ring("17: all give the same", alike);
    }

    /** "all having what they give": none, one, and one that was swapped away. */
    private static void allHavingWhatTheyGive() {
        Sleevehall x = Halls.printed(3);
        x.get(0, 0, 1);
        x.wish(0, 0, 1);
        x.wish(1, 1, 0);
        ring("17: the second one has none", x);
        Due.is("18: the second one has none", 0, x.swap());
        Due.is("18: nothing is given", 1, x.has(0, 0));
        x.get(1, 1, 1);
        ring("17: each has one", x, 0, 1);
        Due.is("18: each has one", 2, x.swap());
        x.wish(0, 0, 1);
        x.wish(1, 1, 0);
        ring("17: each has given the last one", x);
        x.wish(0, 1, 0);
        x.wish(1, 0, 1);
        ring("17: each has what it got", x, 0, 1);
        Sleevehall first = Halls.printed(2);
        first.get(1, 1, 9);
        first.wish(0, 0, 1);
        first.wish(1, 1, 0);
        ring("17: the first one has none", first);
    }

    private static void oneOfManyHasNone() {
        for (int without = 0; without < 6; without++) {
            Sleevehall x = Halls.printed(6);
            for (int player = 0; player < 6; player++) {
                if (player != without) {
                    x.get(player, player, 1);
                }
            }
            wishRing(x, 0, 0, 1, 2, 3, 4, 5);
            ring("17: " + without + " has none", x);
            x.get(without, (without + 5) % 6, 1);
            ring("17: " + without + " has what it wishes for", x);
            x.get(without, without, 1);
            ring("17: all have one", x, 0, 1, 2, 3, 4, 5);
        }
    }

    /** "The best ring is the one with the fewest players". */
    private static void fewestPlayers() {
        Sleevehall x = withOneOfEach(8);
        wishRing(x, 0, 0, 1, 2, 3);
        wishRing(x, 5, 4, 5);
        ring("17: two, with higher players, before four", x, 4, 5);
        Sleevehall three = withOneOfEach(8);
        wishRing(three, 0, 2, 4, 5);
        wishRing(three, 5, 0, 1, 3);
        ring("17: three and three", three, 0, 1, 3);
        wishRing(three, 3, 2, 5);
        ring("17: two before three", three, 2, 5);
        // 0 gives to 1 or to 4, who gives to 5; each of 1 and 5 gives to 0.
        Sleevehall fork = withOneOfEach(3);
        fork.wish(0, 0, 2);
        fork.wish(1, 2, 0);
        fork.wish(4, 1, 0);
        fork.wish(5, 2, 1);
        ring("17: the shorter way", fork, 0, 1);
        fork.wish(1, 1, 0);
        ring("17: the longer way", fork, 0, 1, 5);
    }

    /** "of several the one whose first player is the lowest". */
    private static void lowestFirstPlayer() {
        Sleevehall x = withOneOfEach(8);
        wishRing(x, 0, 4, 5);
        ring("17: one", x, 4, 5);
        wishRing(x, 2, 2, 3);
        ring("17: of two", x, 2, 3);
        wishRing(x, 4, 0, 1);
        ring("17: of three", x, 0, 1);
        Sleevehall far = withOneOfEach(8);
        wishRing(far, 0, 1, 2);
        wishRing(far, 2, 0, 5);
        ring("17: though its second one is higher", far, 0, 5);
    }

    /** "then the second one, and so on". */
    private static void lowestAtEachPlace() {
        Sleevehall second = withOneOfEach(2);
        second.wish(0, 0, 1);
        for (int player = 5; player >= 1; player--) {
            second.wish(player, 1, 0);
            ring("17: the lowest second one", second, 0, player);
        }
        Sleevehall third = withOneOfEach(3);
        third.wish(0, 0, 2);
        third.wish(1, 1, 0);
        for (int player = 5; player >= 2; player--) {
            third.wish(player, 2, 1);
            ring("17: the lowest third one", third, 0, 1, player);
        }
        // The second place may be 1 or 2, the third one 3 to 5: the lowest second one counts more.
        Sleevehall both = withOneOfEach(4);
        both.wish(0, 0, 3);
        both.wish(2, 1, 0);
        both.wish(3, 3, 1);
        ring("17: by 2 and 3", both, 0, 2, 3);
        both.wish(1, 2, 0);
        both.wish(5, 3, 2);
        ring("17: by 1 and 5", both, 0, 1, 5);
        Sleevehall last = withOneOfEach(6);
        wishRing(last, 0, 0, 1, 2, 3, 5);
        ring("17: the last place by 5", last, 0, 1, 2, 3, 5);
        last.wish(4, 4, 3);
        ring("17: the last place by 4", last, 0, 1, 2, 3, 4);
    }

    /** "a ring begins with its lowest player". */
    private static void beginsWithItsLowest() {
        int[][] turns = {{1, 5, 3}, {5, 3, 1}, {3, 1, 5}};
        for (int[] players : turns) {
            Sleevehall x = withOneOfEach(3);
            wishRing(x, 0, players);
            ring("17: the lowest one first, then as it goes round", x, 1, 5, 3);
        }
        Sleevehall back = withOneOfEach(3);
        wishRing(back, 0, 3, 5, 1);
        ring("17: the other way round", back, 1, 3, 5);
    }

    /** "When it is swapped, all wishes in it are over". */
    private static void wishesInItAreOver() {
        Sleevehall x = Halls.stocked();
        wishRing(x, 0, 0, 1, 2);
        Due.is("18: three", 3, x.swap());
        ring("18: all of them are over", x);
        Due.is("18: none is swapped again", 0, x.swap());
        for (int player = 0; player <= 2; player++) {
            Sleevehall again = Halls.stocked();
            wishRing(again, 0, 0, 1, 2);
            again.swap();
            again.wish(5, (player + 2) % 3, player);
            ring("18: the wish of " + player + " is over", again);
        }
    }

    private static void wishesOutsideStay() {
        Sleevehall x = Halls.stocked();
        wishRing(x, 0, 0, 1);
        wishRing(x, 2, 2, 3, 4);
        x.wish(5, 0, 5);
        Due.is("18: the two", 2, x.swap());
        ring("18: the three are left", x, 2, 3, 4);
        Due.is("18: the three", 3, x.swap());
        ring("18: the one alone is left", x);
        x.wish(0, 5, 0);
        ring("18: and wishes still", x, 0, 5);
    }

    /** Each swap takes one card of the kind 0 from the player 0, until there is none. */
    private static void swapsUntilNoneIsLeft() {
        Sleevehall x = Halls.printed(2);
        x.get(0, 0, 3);
        x.get(1, 1, 9);
        for (int left = 2; left >= 0; left--) {
            x.wish(0, 0, 1);
            x.wish(1, 1, 0);
            Due.is("18: swap", 2, x.swap());
            Due.is("18: left", left, x.has(0, 0));
            Due.is("18: got", 3 - left, x.has(1, 0));
        }
        x.wish(0, 0, 1);
        x.wish(1, 1, 0);
        Due.is("18: none is left", 0, x.swap());
        Due.is("18: none", 0, x.has(0, 0));
        Due.is("18: of 9", 6, x.has(1, 1));
    }

    private static void toldAgainAfterASwap() {
        Sleevehall x = withOneOfEach(3);
        x.wish(0, 0, 1);
        x.wish(1, 1, 0);
        x.swap();
        x.wish(0, 2, 0);
        ring("16: one tells a wish again", x);
        x.wish(1, 0, 2);
        ring("16: both do", x, 0, 1);
        Due.is("18: swapped again", 2, x.swap());
        Due.is("18: what is given then", 0, x.has(0, 2));
        Due.is("18: what is got then", 1, x.has(0, 0));
    }
}
