import java.util.Arrays;
import java.util.Random;

/** The edges that the document names of pairs and strengths: promises 19, 20 and 22, a sentence a test. */
public final class EdgesOfPairsTest {
    private static final int NONE = Sleevehall.NONE;
    private static final int ALL = 63;
    /** By how much the loser was stronger, from and to, and what the winner gains. */
    private static final int[][] GAINS = {
        {-1000, -64, 1}, {-63, -60, 1}, {-59, -56, 2}, {-55, -52, 3}, {-51, -48, 4}, {-47, -44, 5}, {-43, -40, 6},
        {-39, -36, 7}, {-35, -32, 8}, {-31, -28, 9}, {-27, -24, 10}, {-23, -20, 11}, {-19, -16, 12}, {-15, -12, 13},
        {-11, -8, 14}, {-7, -4, 15}, {-3, 3, 16}, {4, 7, 17}, {8, 11, 18}, {12, 15, 19}, {16, 19, 20}, {20, 23, 21},
        {24, 27, 22}, {28, 31, 23}, {32, 35, 24}, {36, 39, 25}, {40, 43, 26}, {44, 47, 27}, {48, 51, 28},
        {52, 55, 29}, {56, 59, 30}, {60, 63, 31}, {64, 67, 32}, {68, 1000, 32},
    };
    private static final int FAR = 80;
    private static final int MOST_HALLS = 400;
    private static final int RESULTS = 500;

    private EdgesOfPairsTest() {
    }

    public static void main(String[] args) {
        allSetsOfAlikeOnes();
        noneOneAndTwo();
        strongestFirst();
        lastOfAnOddManyIsLeftOut();
        noneWithOneWhoWasMet();
        fromTheFirstWayToNone();
        noWayThoughEachHasOne();
        earliestOfThoseThatAreAWay();
        metAndNoOther();
        allSetsAgainstTheOracle();
        gainsOfEachDifference();
        gainsFarOff();
        strengthsOfBothAndNoOther();
        Due.end();
    }

    private static int set(int... players) {
        int in = 0;
        for (int player : players) {
            in |= 1 << player;
        }
        return in;
    }

    /** All players are paired so, those at 0 and 1, at 2 and 3, and so on; nobody else is. */
    private static void pairs(String what, Sleevehall x, int in, int... paired) {
        int[] want = {NONE, NONE, NONE, NONE, NONE, NONE};
        for (int at = 0; at < paired.length; at++) {
            want[paired[at]] = paired[at ^ 1];
        }
        for (int player = 0; player < Halls.PLAYERS; player++) {
            Due.is(what + ", player " + player, want[player], x.pair(player, in));
        }
    }

    /** What the other tests rest on: these are in the order of their strengths. */
    private static void isRow(Sleevehall x, int... row) {
        for (int at = 1; at < row.length; at++) {
            int stronger = x.strength(row[at - 1]);
            int weaker = x.strength(row[at]);
            Due.is("22: the row at " + at, true, stronger > weaker || stronger == weaker && row[at - 1] < row[at]);
        }
    }

    /** "of alike ones the lowest", with each set of players: they are paired in their order, the last odd one is not. */
    private static void allSetsOfAlikeOnes() {
        Sleevehall x = new Sleevehall();
        for (int in = 0; in <= ALL; in++) {
            int[] row = new int[Halls.PLAYERS];
            int length = 0;
            for (int player = 0; player < Halls.PLAYERS; player++) {
                if ((in >> player & 1) == 1) {
                    row[length] = player;
                    length++;
                }
            }
            pairs("19: in " + in, x, in, Arrays.copyOf(row, length - length % 2));
        }
    }

    private static void noneOneAndTwo() {
        Sleevehall x = new Sleevehall();
        x.result(0, 1);
        pairs("19: nobody is in", x, 0);
        for (int player = 0; player < Halls.PLAYERS; player++) {
            pairs("19: one is in", x, set(player));
        }
        pairs("19: two are in", x, set(2, 3), 2, 3);
        pairs("19: the first and the last", x, set(0, 5), 0, 5);
        pairs("19: two who have met", x, set(0, 1));
    }

    /** The row is 2, 0, 3, 1, 4, 5, of which 1 and 4 are alike; 5 has met 0, 2 and 3, and nobody else has met. */
    private static Sleevehall ranked() {
        Sleevehall x = new Sleevehall();
        for (int times = 0; times < 3; times++) {
            x.result(2, 5);
        }
        x.result(0, 5);
        x.result(0, 5);
        x.result(3, 5);
        return x;
    }

    /** "put in a row by strength, the strongest first, of alike ones the lowest". */
    private static void strongestFirst() {
        Sleevehall x = ranked();
        isRow(x, 2, 0, 3, 1, 4, 5);
        Due.is("22: alike ones", x.strength(1), x.strength(4));
        pairs("19: all six", x, ALL, 2, 0, 3, 1, 4, 5);
        pairs("19: four", x, set(0, 1, 2, 3), 2, 0, 3, 1);
        pairs("19: four with alike ones", x, set(0, 1, 3, 4), 0, 3, 1, 4);
        pairs("19: four with the weakest", x, set(1, 2, 4, 5), 2, 1, 4, 5);
        Sleevehall overtaken = ranked();
        overtaken.result(4, 2);
        isRow(overtaken, 4, 0, 3, 2, 1, 5);
        pairs("19: the weaker one is the strongest now", overtaken, ALL, 4, 0, 3, 2, 1, 5);
    }

    /** "of an odd many the last one is left out". */
    private static void lastOfAnOddManyIsLeftOut() {
        Sleevehall x = ranked();
        pairs("19: of five the weakest", x, set(0, 1, 2, 3, 5), 2, 0, 3, 1);
        pairs("19: of alike ones the highest", x, set(0, 1, 2, 3, 4), 2, 0, 3, 1);
        pairs("19: of three", x, set(1, 3, 4), 3, 1);
        pairs("19: of three, the lowest number", x, set(0, 2, 3), 2, 0);
        pairs("19: of three, one whom the others have met", x, set(0, 2, 5), 2, 0);
        pairs("19: of one", x, set(2));
    }

    /** "none with one who was met": whether the first one won, or lost. */
    private static void noneWithOneWhoWasMet() {
        Sleevehall lost = new Sleevehall();
        lost.result(0, 1);
        for (int times = 0; times < 3; times++) {
            lost.result(1, 5);
        }
        isRow(lost, 1, 0, 2, 3, 4, 5);
        pairs("19: the first one lost to the second", lost, set(0, 1, 2, 3), 1, 2, 0, 3);
        pairs("19: of six", lost, ALL, 1, 2, 0, 3, 4, 5);
        pairs("19: both alone", lost, set(0, 1));
        Sleevehall won = new Sleevehall();
        won.result(1, 0);
        won.result(0, 5);
        isRow(won, 1, 0, 2, 3, 4, 5);
        pairs("19: the first one won over the second", won, set(0, 1, 2, 3), 1, 2, 0, 3);
        pairs("19: the third one is left out", won, set(0, 1, 2));
    }

    /** "NONE .. if there is no such way". */
    private static void fromTheFirstWayToNone() {
        Sleevehall x = ranked();
        int in = set(0, 1, 2, 3);
        pairs("19: the first way", x, in, 2, 0, 3, 1);
        x.result(2, 0);
        isRow(x, 2, 3, 0, 1, 4, 5);
        pairs("19: of a new row", x, in, 2, 3, 0, 1);
        x.result(2, 3);
        isRow(x, 2, 0, 1, 4, 3, 5);
        pairs("19: the last way", x, in, 2, 1, 0, 3);
        x.result(2, 1);
        pairs("19: no way, as one has met all", x, in);
        isRow(x, 2, 0, 4, 3, 1, 5);
        pairs("19: without that one", x, set(0, 1, 3), 0, 3);
        pairs("19: with one who was not met", x, ALL, 2, 4, 0, 3, 1, 5);
    }

    /** Nobody has met all, but those who have not met are two times three. */
    private static void noWayThoughEachHasOne() {
        Sleevehall x = new Sleevehall();
        for (int one = 0; one <= 2; one++) {
            for (int other = 3; other <= 5; other++) {
                x.result(one, other);
            }
        }
        isRow(x, 0, 1, 2, 5, 4, 3);
        pairs("19: three and three", x, ALL);
        pairs("19: three and one", x, set(0, 1, 2, 4));
        pairs("19: three and two, of whom one is left out", x, set(0, 1, 2, 3, 4));
        pairs("19: two and three, of whom one is left out", x, set(0, 1, 3, 4, 5), 0, 1, 4, 5);
        pairs("19: two and two", x, set(1, 2, 3, 4), 1, 2, 3, 4);
        pairs("19: one and one", x, set(1, 4));
        pairs("19: three, of whom one is left out", x, set(0, 1, 2), 0, 1);
    }

    /** "in which the first one of the row is paired with the one that comes earliest": of the ways, not of the row. */
    private static void earliestOfThoseThatAreAWay() {
        Sleevehall x = new Sleevehall();
        // The third one of the row has met all behind it: the first two are no pair, as the rest would be no way.
        x.result(1, 4);
        x.result(1, 2);
        x.result(0, 1);
        x.result(3, 0);
        x.result(5, 0);
        isRow(x, 3, 5, 1, 2, 0, 4);
        pairs("19: the first one and the third", x, ALL, 3, 1, 5, 2, 0, 4);
        pairs("19: the first two, without the third", x, set(0, 2, 3, 4, 5), 3, 5, 2, 0);
    }

    private static void metAndNoOther() {
        for (int one = 0; one < Halls.PLAYERS; one++) {
            for (int other = 0; other < Halls.PLAYERS; other++) {
                if (one != other) {
                    Sleevehall x = new Sleevehall();
                    x.result(one, other);
                    pairsOfTwo(x, one, other);
                }
            }
        }
    }

    private static void pairsOfTwo(Sleevehall x, int one, int other) {
        for (int a = 0; a < Halls.PLAYERS; a++) {
            for (int b = a + 1; b < Halls.PLAYERS; b++) {
                boolean haveMet = set(a, b) == set(one, other);
                String what = "20: " + one + " and " + other + " have met, then " + a + " and " + b;
                Due.is(what, haveMet ? NONE : b, x.pair(a, set(a, b)));
                Due.is(what, haveMet ? NONE : a, x.pair(b, set(a, b)));
            }
        }
    }

    /** After some results, up to so many that nearly all have met, each player of each set. */
    private static void allSetsAgainstTheOracle() {
        for (int seed = 0; seed < 30; seed++) {
            Random random = new Random(seed);
            Sleevehall x = new Sleevehall();
            Oracle oracle = new Oracle();
            for (int results = seed; results > 0; results--) {
                int winner = random.nextInt(6);
                int loser = (winner + 1 + random.nextInt(5)) % 6;
                Due.is("20: result, seed " + seed, oracle.result(winner, loser), x.result(winner, loser));
            }
            for (int in = 0; in <= ALL; in++) {
                for (int player = 0; player < Halls.PLAYERS; player++) {
                    Due.is("19: pair, seed " + seed + ", in " + in, oracle.pair(player, in), x.pair(player, in));
                }
            }
        }
    }

    private static int gain(int stronger) {
        for (int[] each : GAINS) {
            if (each[0] <= stronger && stronger <= each[1]) {
                return each[2];
            }
        }
        throw new IllegalStateException("no gain of " + stronger);
    }

    /** "16 and a quarter of by how much the loser was stronger, rounded towards 0, from 1 to 32". */
    private static void gainsOfEachDifference() {
        boolean[] isSeen = new boolean[2 * FAR + 1];
        for (int seed = 0; seed < MOST_HALLS; seed++) {
            Random random = new Random(seed);
            Sleevehall x = new Sleevehall();
            int[] strengths = {1000, 1000, 1000, 1000, 1000, 1000};
            for (int times = 0; times < RESULTS; times++) {
                int winner = random.nextInt(6);
                int loser = (winner + 1 + random.nextInt(5)) % 6;
                int stronger = strengths[loser] - strengths[winner];
                int gain = gain(stronger);
                Due.is("20: the loser was stronger by " + stronger, gain, x.result(winner, loser));
                strengths[winner] += gain;
                strengths[loser] -= gain;
                if (Math.abs(stronger) <= FAR) {
                    isSeen[stronger + FAR] = true;
                }
            }
            for (int player = 0; player < Halls.PLAYERS; player++) {
                Due.is("22: strength, seed " + seed, strengths[player], x.strength(player));
            }
        }
        for (int stronger = -FAR; stronger <= FAR; stronger++) {
            Due.is("20: a result with the difference " + stronger + " was told", true, isSeen[stronger + FAR]);
        }
    }

    private static void gainsFarOff() {
        Sleevehall x = new Sleevehall();
        for (int times = 0; times < 150; times++) {
            x.result(0, 1);
        }
        Due.is("22: far stronger", true, x.strength(0) - x.strength(1) > 300);
        Due.is("20: far stronger, at least 1", 1, x.result(0, 1));
        Due.is("20: far weaker, at most 32", 32, x.result(1, 0));
    }

    /** "the winner gains, and the loser loses". */
    private static void strengthsOfBothAndNoOther() {
        for (int winner = 0; winner < Halls.PLAYERS; winner++) {
            for (int loser = 0; loser < Halls.PLAYERS; loser++) {
                if (winner != loser) {
                    Sleevehall x = new Sleevehall();
                    Due.is("20: alike ones", 16, x.result(winner, loser));
                    for (int player = 0; player < Halls.PLAYERS; player++) {
                        int want = player == winner ? 1016 : player == loser ? 984 : 1000;
                        Due.is("22: strength of " + player, want, x.strength(player));
                    }
                }
            }
        }
    }
}
