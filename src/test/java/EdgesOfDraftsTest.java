import java.util.ArrayList;
import java.util.List;

/** The edges that the document names of drafts: promises 13 to 15, from the first pick to the last, a sentence a test. */
public final class EdgesOfDraftsTest {
    private static final int NONE = Sleevehall.NONE;
    private static final int[] SEEDS = {0, 1, 872, 873, 45438, 65535, 65536};

    private EdgesOfDraftsTest() {
    }

    public static void main(String[] args) {
        remaindersByHand();
        remaindersByKinds();
        kindsAtTheBeginning();
        allDraftsToTheLastPick();
        eachPlaceIsPicked();
        thoseBehindMoveUp();
        packsGoOn();
        overWhenPacksAreEmpty();
        inPlaceOfAnotherOne();
        inPlaceOfOneThatIsOver();
        noDraftGoesOn();
        Due.end();
    }

    /** The kinds before the player whose turn it is, and what is offered behind them. */
    private static void offers(String what, Sleevehall x, int... kinds) {
        for (int place = 0; place < kinds.length; place++) {
            Due.is(what + ", place " + place, kinds[place], x.offered(place));
        }
        Due.is(what + ", behind the last place", NONE, x.offered(kinds.length));
        Due.is(what + ", far behind", NONE, x.offered(Integer.MAX_VALUE));
    }

    /** "becomes 75 times x and 74, together, by its remainder by 65537; the kind is x by its remainder by .. kinds". */
    private static void remaindersByHand() {
        Sleevehall x = Halls.printed(20);
        // 74, 5624, 28652, 51790, 17641, 12409
        x.draft(2, 6, 0);
        offers("13: x 0", x, 14, 4, 12, 10, 1, 9);
        // 149, 11249, 57305
        x.draft(2, 3, 1);
        offers("13: x 1", x, 9, 9, 5);
        // 65474 is below 65537, and 65549, of the next x, is above it.
        x.draft(2, 3, 872);
        offers("13: x 872, the last below the remainder", x, 14, 6, 11);
        x.draft(2, 3, 873);
        offers("13: x 873, the first with a remainder", x, 12, 14, 7);
        // 3407924 is 52 times 65537: the remainder is 0.
        x.draft(2, 3, 45438);
        offers("13: x 45438, the remainder is 0", x, 0, 14, 4);
        // 65461, 59911, 36883
        x.draft(2, 3, 65535);
        offers("13: x 65535", x, 1, 11, 3);
        // 75 times 65536 and 74 is 75 times 65537 less 1: it becomes itself.
        x.draft(2, 3, 65536);
        offers("13: x 65536, the greatest, that stays", x, 16, 16, 16);
    }

    private static void remaindersByKinds() {
        for (int kinds = 1; kinds <= 20; kinds++) {
            Sleevehall x = Halls.printed(kinds);
            x.draft(2, 6, 0);
            offers("13: of " + kinds, x, 74 % kinds, 5624 % kinds, 28652 % kinds, 51790 % kinds, 17641 % kinds,
                12409 % kinds);
            x.draft(2, 3, 65536);
            offers("13: the greatest of " + kinds, x, 65536 % kinds, 65536 % kinds, 65536 % kinds);
        }
    }

    /** "by how many kinds there are": when it begins. */
    private static void kindsAtTheBeginning() {
        Sleevehall x = Halls.printed(1);
        x.draft(2, 3, 0);
        x.kind(0, 1);
        offers("13: of the one kind that there was", x, 0, 0, 0);
        x.draft(2, 3, 1);
        offers("13: of the two that there are", x, 1, 1, 1);
    }

    /** "Each in turn, from the player 0 on", with each many of players and of cards. */
    private static void allDraftsToTheLastPick() {
        for (int players = 2; players <= 6; players++) {
            for (int cards = 3; cards <= 6; cards++) {
                for (int seed : SEEDS) {
                    wholeDraft(players, cards, seed, 1 + seed % 20);
                    wholeDraft(players, cards, seed, 20);
                }
            }
        }
    }

    private static void wholeDraft(int players, int cards, int seed, int kinds) {
        Sleevehall x = Halls.printed(kinds);
        x.draft(players, cards, seed);
        List<List<Integer>> packs = packs(players, cards, seed, kinds);
        int[][] has = new int[Halls.PLAYERS][kinds];
        String what = "15: " + players + " players, " + cards + " cards, x " + seed + ", kinds " + kinds;
        for (int pick = 0; pick < players * cards; pick++) {
            int turn = pick % players;
            int round = pick / players;
            List<Integer> pack = packs.get((turn + players * cards - round) % players);
            int place = (pick * 5 + seed) % pack.size();
            offers(what + ", pick " + pick, x, pack.stream().mapToInt(Integer::intValue).toArray());
            Due.refused(what + ", behind the last place", Due.INDEX, () -> x.pick(pack.size()));
            boolean isLast = pick == players * cards - 1;
            Due.is(what + ", whose turn it is then", isLast ? NONE : (pick + 1) % players, x.pick(place));
            has[turn][pack.remove(place)]++;
        }
        isOver(what, x);
        for (int player = 0; player < Halls.PLAYERS; player++) {
            for (int kind = 0; kind < kinds && kind < 9; kind++) {
                Due.is(what + ", the collection", has[player][kind], x.has(player, kind));
            }
        }
    }

    private static List<List<Integer>> packs(int players, int cards, int seed, int kinds) {
        List<List<Integer>> packs = new ArrayList<>();
        long x = seed;
        for (int player = 0; player < players; player++) {
            List<Integer> pack = new ArrayList<>();
            for (int card = 0; card < cards; card++) {
                x = (75 * x + 74) % 65537;
                pack.add((int) (x % kinds));
            }
            packs.add(pack);
        }
        return packs;
    }

    private static void isOver(String what, Sleevehall x) {
        offers(what + ", over", x);
        Due.refused(what + ", over, place -1", Due.INDEX, () -> x.pick(-1));
        Due.refused(what + ", over, place 0", Due.STATE, () -> x.pick(0));
        Due.refused(what + ", over, offered -1", Due.INDEX, () -> x.offered(-1));
    }

    /** "IndexOutOfBoundsException if place is below 0, or the pack has not so many". */
    private static void eachPlaceIsPicked() {
        for (int cards = 3; cards <= 6; cards++) {
            for (int place = 0; place < cards; place++) {
                Sleevehall x = Halls.printed(20);
                x.draft(2, cards, 0);
                int size = cards;
                int kind = x.offered(place);
                Due.refused("15: place -1", Due.INDEX, () -> x.pick(-1));
                Due.refused("15: behind the last place", Due.INDEX, () -> x.pick(size));
                Due.refused("15: far behind", Due.INDEX, () -> x.pick(Integer.MAX_VALUE));
                Due.is("15: the place " + place + " of " + cards, 1, x.pick(place));
                Due.is("15: into the collection", 1, x.has(0, kind));
            }
        }
    }

    /** The packs of x 0 of 20 kinds: 14, 4, 12, 10 and 1, 9, 11, 4. */
    private static Sleevehall ofTwoPacks() {
        Sleevehall x = Halls.printed(20);
        x.draft(2, 4, 0);
        return x;
    }

    /** "(those behind it move up)". */
    private static void thoseBehindMoveUp() {
        int[][] left = {{4, 12, 10}, {14, 12, 10}, {14, 4, 10}, {14, 4, 12}};
        for (int place = 0; place < 4; place++) {
            Sleevehall x = ofTwoPacks();
            offers("14: the first pack", x, 14, 4, 12, 10);
            x.pick(place);
            int first = x.offered(0);
            x.pick(0);
            Due.is("15: another's pack is another one", 1, first);
            x.pick(0);
            offers("14: without the place " + place, x, left[place]);
        }
    }

    /** "packs go on to the next player, the last one's to the first". */
    private static void packsGoOn() {
        Sleevehall x = Halls.printed(20);
        x.draft(6, 6, 0);
        List<List<Integer>> packs = packs(6, 6, 0, 20);
        for (int turn = 0; turn < 6; turn++) {
            Due.is("15: each has an own one at first", packs.get(turn).get(5), x.offered(5));
            x.pick(0);
        }
        Due.is("15: the last one's goes to the first", packs.get(5).get(5), x.offered(4));
        x.pick(0);
        Due.is("15: the first one's to the second", packs.get(0).get(5), x.offered(4));
        for (int turn = 1; turn < 5; turn++) {
            x.pick(0);
        }
        Due.is("15: the fifth one's to the last", packs.get(4).get(5), x.offered(4));
    }

    /** "It is over when packs are empty", "NONE if the draft is over". */
    private static void overWhenPacksAreEmpty() {
        Sleevehall x = Halls.printed(20);
        x.draft(2, 3, 0);
        for (int pick = 1; pick <= 5; pick++) {
            Due.is("15: it goes on", pick % 2, x.pick(0));
        }
        Due.is("14: the last card", true, x.offered(0) != NONE);
        Due.is("14: and no other", NONE, x.offered(1));
        Due.refused("15: there is no other", Due.INDEX, () -> x.pick(1));
        Due.is("15: it is over", NONE, x.pick(0));
        isOver("15: two players, three cards", x);
    }

    /** "Begins a draft, in place of another one": after each many of picks. */
    private static void inPlaceOfAnotherOne() {
        for (int picks = 0; picks <= 8; picks++) {
            Sleevehall x = ofTwoPacks();
            for (int pick = 0; pick < picks; pick++) {
                x.pick(0);
            }
            x.draft(3, 5, 0);
            String what = "13: after " + picks + " picks, ";
            offers(what + "a new one", x, 14, 4, 12, 10, 1);
            Due.is(what + "the player 0 picks", 1, x.pick(4));
            Due.is(what + "of three players", 2, x.pick(4));
            Due.is(what + "who all pick", 0, x.pick(4));
            x.draft(2, 3, 1);
            offers(what + "a smaller one", x, 9, 9, 5);
        }
    }

    private static void inPlaceOfOneThatIsOver() {
        Sleevehall x = Halls.drafted();
        isOver("15: over", x);
        x.draft(2, 3, 0);
        offers("13: a new one", x, 74 % 6, 5624 % 6, 28652 % 6);
        Due.is("15: it goes on", 1, x.pick(2));
    }

    /** "NONE if .. no draft goes on", "IllegalStateException if no draft goes on". */
    private static void noDraftGoesOn() {
        isOver("15: of a new object", new Sleevehall());
        isOver("15: none was begun", Halls.stocked());
        Sleevehall refused = new Sleevehall();
        Due.refused("13: there are no kinds", Due.STATE, () -> Halls.draft(refused, 2, 3, 0));
        isOver("15: what was refused is not begun", refused);
        Sleevehall wrong = Halls.stocked();
        Due.refused("13: one player", Due.ARGUMENT, () -> Halls.draft(wrong, 1, 3, 0));
        isOver("15: nor is what was wrong", wrong);
    }
}
