/** The edges that the document names of decks: promises 11 and 12, a sentence a test. */
public final class EdgesOfDecksTest {
    private EdgesOfDecksTest() {
    }

    public static void main(String[] args) {
        upToEightCards();
        upToEightUnlikeCards();
        asManyAsInTheCollection();
        atMostThreeOfAKind();
        eachPlayerHasADeck();
        goodFromFourCards();
        goodIfThatIsSoNow();
        goodAgainWhenItIsSo();
        noneBannedByThen();
        bannedFromTheFirstDay();
        bannedFromTheLastDay();
        anyOfItsKindsBanned();
        theBanToldLast();
        Due.end();
    }

    /** So many kinds, of which all players have 9 each. */
    private static Sleevehall rich(int kinds) {
        Sleevehall x = Halls.printed(kinds);
        for (int player = 0; player < Halls.PLAYERS; player++) {
            for (int kind = 0; kind < kinds; kind++) {
                x.get(player, kind, 9);
            }
        }
        return x;
    }

    private static void putMany(Sleevehall x, int player, int... kinds) {
        for (int kind : kinds) {
            x.put(player, kind);
        }
    }

    /** "a row of up to 8 cards", "IllegalStateException if it has 8". */
    private static void upToEightCards() {
        Sleevehall x = rich(4);
        for (int many = 1; many <= 8; many++) {
            Due.is("11: how many cards it has then", many, x.put(0, (many - 1) / 3));
        }
        for (int kind = 0; kind < 4; kind++) {
            int any = kind;
            Due.refused("11: a ninth", Due.STATE, () -> x.put(0, any));
        }
        Due.is("12: a deck of 8", true, x.isGood(0, 0));
        Due.is("3: no ninth of the kind 2", 1, x.ban(2, 1000));
        Due.is("3: no card of the kind 3", 0, x.ban(3, 1000));
    }

    private static void upToEightUnlikeCards() {
        Sleevehall x = rich(9);
        for (int kind = 0; kind < 8; kind++) {
            Due.is("11: unlike cards", kind + 1, x.put(5, kind));
        }
        Due.refused("11: a ninth kind", Due.STATE, () -> x.put(5, 8));
        Due.is("12: a deck of 8 kinds", true, x.isGood(5, 0));
        Due.is("3: it is not in it", 0, x.ban(8, 0));
        Due.is("12: nor counts its ban", true, x.isGood(5, 0));
    }

    /** "of each kind at most as many as are in the collection". */
    private static void asManyAsInTheCollection() {
        Sleevehall x = Halls.printed(2);
        Due.refused("11: none is in the collection", Due.STATE, () -> x.put(0, 0));
        for (int many = 1; many <= 3; many++) {
            x.get(0, 0, 1);
            Due.is("11: one more is", many, x.put(0, 0));
            Due.refused("11: but no other", Due.STATE, () -> x.put(0, 0));
            Due.is("21: it stays in the collection", many, x.has(0, 0));
        }
        Due.refused("11: none of another kind", Due.STATE, () -> x.put(0, 1));
        Due.refused("11: none of another player's", Due.STATE, () -> x.put(1, 0));
        Sleevehall two = Halls.printed(2);
        two.get(4, 1, 2);
        Due.is("11: one of two", 1, two.put(4, 1));
        Due.is("11: two of two", 2, two.put(4, 1));
        Due.refused("11: three of two", Due.STATE, () -> two.put(4, 1));
    }

    /** "and at most 3". */
    private static void atMostThreeOfAKind() {
        for (int have = 3; have <= 5; have++) {
            Sleevehall x = Halls.printed(2);
            x.get(0, 0, have);
            x.get(0, 1, 9);
            putMany(x, 0, 0, 0);
            Due.is("11: a third", 3, x.put(0, 0));
            Due.refused("11: a fourth of " + have, Due.STATE, () -> x.put(0, 0));
            Due.is("11: of another kind", 4, x.put(0, 1));
            Due.refused("11: a fourth, still", Due.STATE, () -> x.put(0, 0));
        }
    }

    private static void eachPlayerHasADeck() {
        Sleevehall x = rich(3);
        for (int player = 0; player < Halls.PLAYERS; player++) {
            for (int many = 1; many <= 3 + player; many++) {
                Due.is("11: the deck of each", many, x.put(player, many % 3));
            }
        }
        for (int player = 0; player < Halls.PLAYERS; player++) {
            Due.is("12: the deck of " + player, player > 0, x.isGood(player, 0));
        }
    }

    /** "it has at least 4 cards". */
    private static void goodFromFourCards() {
        Sleevehall x = rich(3);
        Due.is("12: no card", false, x.isGood(0, 0));
        for (int many = 1; many <= 8; many++) {
            x.put(0, many % 3);
            Due.is("12: so many cards: " + many, many >= 4, x.isGood(0, 0));
            Due.is("12: another player's", false, x.isGood(1, 0));
        }
    }

    /** A deck of four with the last two cards of the kind 0; the player 1 gives the kind 1 for it. */
    private static Sleevehall withTheLastTwo() {
        Sleevehall x = Halls.printed(2);
        x.get(0, 0, 2);
        x.get(0, 1, 2);
        x.get(1, 1, 9);
        putMany(x, 0, 0, 0, 1, 1);
        return x;
    }

    private static void swapOne(Sleevehall x) {
        x.wish(0, 0, 1);
        x.wish(1, 1, 0);
        x.swap();
    }

    /** "It is good on a day, if that is so now". */
    private static void goodIfThatIsSoNow() {
        Sleevehall x = withTheLastTwo();
        Due.is("12: as many as there are", true, x.isGood(0, 0));
        swapOne(x);
        Due.is("21: one is gone", 1, x.has(0, 0));
        Due.is("12: one more than there are", false, x.isGood(0, 0));
        Due.is("12: on a later day, too", false, x.isGood(0, 1000));
        Due.is("3: it is in the deck still", 1, x.ban(0, 1000));
        Due.refused("11: as many as it may, and more", Due.STATE, () -> x.put(0, 0));
        Due.is("11: another kind", 5, x.put(0, 1));
        swapOne(x);
        Due.is("21: none is there", 0, x.has(0, 0));
        Due.is("12: two more than there are", false, x.isGood(0, 0));
        Sleevehall spare = withTheLastTwo();
        spare.get(0, 0, 1);
        swapOne(spare);
        Due.is("12: a spare one is gone", true, spare.isGood(0, 0));
    }

    private static void goodAgainWhenItIsSo() {
        Sleevehall x = withTheLastTwo();
        swapOne(x);
        x.get(0, 0, 1);
        Due.is("12: it is there again", true, x.isGood(0, 0));
        Due.refused("11: but no other", Due.STATE, () -> x.put(0, 0));
        x.get(0, 0, 1);
        Due.is("11: one more", 5, x.put(0, 0));
        Due.is("12: is good, too", true, x.isGood(0, 0));
    }

    /** A good deck of the kinds 0 to 2, of the player 3. */
    private static Sleevehall withDeck() {
        Sleevehall x = rich(4);
        putMany(x, 3, 0, 1, 1, 2);
        return x;
    }

    /** "none of them is banned by then". */
    private static void noneBannedByThen() {
        Sleevehall x = withDeck();
        x.ban(1, 5);
        for (int day = 0; day <= 9; day++) {
            Due.is("12: on the day " + day, day < 5, x.isGood(3, day));
        }
        Due.is("12: on the last day", false, x.isGood(3, 1000));
        x.pass(4);
        Due.is("12: the day before it, today", true, x.isGood(3, 4));
        x.pass(1);
        Due.is("12: its day, today", false, x.isGood(3, 5));
        Due.is("11: it is a deck still", 5, x.put(3, 0));
        Due.is("11: that takes banned ones", 6, x.put(3, 1));
    }

    private static void bannedFromTheFirstDay() {
        Sleevehall x = withDeck();
        x.ban(3, 0);
        Due.is("12: a kind that it has not is banned", true, x.isGood(3, 0));
        x.ban(2, 0);
        Due.is("12: a kind that it has is banned", false, x.isGood(3, 0));
    }

    private static void bannedFromTheLastDay() {
        Sleevehall x = withDeck();
        Due.is("12: on the last day", true, x.isGood(3, 1000));
        x.ban(0, 1000);
        Due.is("12: the day before", true, x.isGood(3, 999));
        Due.is("12: banned from the last day", false, x.isGood(3, 1000));
    }

    private static void anyOfItsKindsBanned() {
        for (int kind = 0; kind <= 3; kind++) {
            Sleevehall x = withDeck();
            x.ban(kind, 7);
            Due.is("12: the kind " + kind + ", before", true, x.isGood(3, 6));
            Due.is("12: the kind " + kind + " is banned", kind == 3, x.isGood(3, 7));
        }
        Sleevehall last = rich(20);
        putMany(last, 3, 19, 19, 18, 18);
        last.ban(19, 1);
        Due.is("12: the last kind, before", true, last.isGood(3, 0));
        Due.is("12: the last kind is banned", false, last.isGood(3, 1));
    }

    /** "told again, the day told last counts". */
    private static void theBanToldLast() {
        Sleevehall x = withDeck();
        x.ban(1, 0);
        x.ban(1, 9);
        Due.is("12: told for a later day", true, x.isGood(3, 8));
        Due.is("12: and that day", false, x.isGood(3, 9));
        x.ban(1, 4);
        Due.is("12: told for an earlier day", true, x.isGood(3, 3));
        Due.is("12: and that earlier day", false, x.isGood(3, 4));
    }
}
