import java.util.ArrayList;
import java.util.Collections;
import java.util.Comparator;
import java.util.List;

/** The document told once more, in the plainest way and without regard to cost; random runs are held against it. */
final class Oracle {
    static final int NONE = -1;

    /** A play on the stack; the last one of the list is the top. */
    private record Play(int effect, long number, int player, int against) {
    }

    private final List<int[]> kinds = new ArrayList<>();
    private final int[][] has = new int[6][20];
    private final List<List<Integer>> decks = new ArrayList<>();
    private List<Play> stack = new ArrayList<>();
    private long[] lives = {20, 20, 20, 20, 20, 20};
    private long[] shields = new long[6];
    private final int[] strengths = {1000, 1000, 1000, 1000, 1000, 1000};
    private final boolean[][] met = new boolean[6][6];
    private final int[][] wishes = new int[6][];
    private List<List<Integer>> packs = new ArrayList<>();
    private int turn = 0;
    private int day = 0;

    Oracle() {
        for (int player = 0; player < 6; player++) {
            decks.add(new ArrayList<>());
        }
    }

    private static void index(boolean isRight) {
        if (!isRight) {
            throw new IndexOutOfBoundsException();
        }
    }

    private static void argument(boolean isRight) {
        if (!isRight) {
            throw new IllegalArgumentException();
        }
    }

    private static void state(boolean isRight) {
        if (!isRight) {
            throw new IllegalStateException();
        }
    }

    private static void player(int player) {
        index(0 <= player && player <= 5);
    }

    private void kindIs(int kind) {
        index(0 <= kind && kind < kinds.size());
    }

    int kind(int effect, int number) {
        argument(0 <= effect && effect <= 5 && 1 <= number && number <= 9);
        state(kinds.size() < 20);
        kinds.add(new int[] {effect, number, Integer.MAX_VALUE});
        return kinds.size() - 1;
    }

    int ban(int kind, int from) {
        kindIs(kind);
        argument(day <= from && from <= 1000);
        kinds.get(kind)[2] = from;
        return (int) decks.stream().filter(deck -> deck.contains(kind)).count();
    }

    int get(int player, int kind, int many) {
        player(player);
        kindIs(kind);
        argument(1 <= many && many <= 9);
        return has[player][kind] += many;
    }

    int pass(int days) {
        argument(1 <= days && days <= 100);
        state(day + days <= 1000);
        return day += days;
    }

    int play(int player, int kind, int against) {
        player(player);
        kindIs(kind);
        player(against);
        int[] printed = kinds.get(kind);
        state(has[player][kind] > 0 && day < printed[2] && stack.size() < 6);
        stack.add(new Play(printed[0], printed[1], player, against));
        return stack.size();
    }

    int top() {
        state(!stack.isEmpty());
        List<Play> rest = new ArrayList<>(stack);
        long[] l = lives.clone();
        long[] s = shields.clone();
        state(does(rest, l, s));
        stack = rest;
        lives = l;
        shields = s;
        return stack.size();
    }

    private static boolean isInt(long n) {
        return n == (int) n;
    }

    private static boolean does(List<Play> plays, long[] l, long[] s) {
        Play done = plays.remove(plays.size() - 1);
        int whom = done.against;
        if (done.effect == 0) {
            long rest = Math.max(0, done.number - s[whom]);
            s[whom] = Math.max(0, s[whom] - done.number);
            l[whom] -= rest;
        } else if (done.effect == 1) {
            l[whom] += done.number;
        } else if (done.effect == 2) {
            s[whom] += done.number;
        } else if (done.effect == 3) {
            for (int at = plays.size() - 1; at >= 0; at--) {
                if (plays.get(at).player != done.player) {
                    plays.remove(at);
                    break;
                }
            }
        } else if (done.effect == 4 && !plays.isEmpty()) {
            Play next = plays.remove(plays.size() - 1);
            plays.add(new Play(next.effect, next.number * 2, next.player, next.against));
            return isInt(next.number * 2);
        } else if (done.effect == 5) {
            plays.replaceAll(p -> p.effect > 1 ? p : new Play(1 - p.effect, p.number, p.player, p.against));
        }
        return isInt(l[whom]) && isInt(s[whom]);
    }

    /** All rows of the elements from 0 on, so many of them at a time, in the order of their first, second, .. one. */
    private static List<List<Integer>> rows(int of, int length) {
        List<List<Integer>> all = new ArrayList<>();
        if (length == 0) {
            all.add(new ArrayList<>());
            return all;
        }
        for (List<Integer> begun : rows(of, length - 1)) {
            for (int next = 0; next < of; next++) {
                if (!begun.contains(next)) {
                    List<Integer> row = new ArrayList<>(begun);
                    row.add(next);
                    all.add(row);
                }
            }
        }
        return all;
    }

    int bound(int player, boolean isGreatest) {
        player(player);
        List<Long> found = new ArrayList<>();
        for (List<Integer> order : rows(stack.size(), stack.size())) {
            List<Play> plays = new ArrayList<>();
            for (int at : order) {
                plays.add(stack.get(at));
            }
            long[] l = lives.clone();
            long[] s = shields.clone();
            boolean isRight = true;
            while (isRight && !plays.isEmpty()) {
                isRight = does(plays, l, s);
            }
            if (isRight) {
                found.add(l[player]);
            }
        }
        if (found.isEmpty()) {
            return NONE;
        }
        return (int) (long) (isGreatest ? Collections.max(found) : Collections.min(found));
    }

    int life(int player, boolean isShield) {
        player(player);
        return (int) (isShield ? shields[player] : lives[player]);
    }

    int lifeAnew(int player) {
        player(player);
        return (int) lives[player];
    }

    private static int count(List<Integer> deck, int kind) {
        return Collections.frequency(deck, kind);
    }

    int put(int player, int kind) {
        player(player);
        kindIs(kind);
        List<Integer> deck = decks.get(player);
        state(deck.size() < 8 && count(deck, kind) < 3 && count(deck, kind) < has[player][kind]);
        deck.add(kind);
        return deck.size();
    }

    boolean isGood(int player, int on) {
        player(player);
        argument(day <= on && on <= 1000);
        List<Integer> deck = decks.get(player);
        boolean isGood = deck.size() >= 4 && deck.size() <= 8;
        for (int kind : deck) {
            isGood &= count(deck, kind) <= 3 && count(deck, kind) <= has[player][kind] && kinds.get(kind)[2] > on;
        }
        return isGood;
    }

    int draft(int players, int cards, int x) {
        argument(2 <= players && players <= 6 && 3 <= cards && cards <= 6 && 0 <= x && x <= 65536);
        state(!kinds.isEmpty());
        packs = new ArrayList<>();
        long now = x;
        for (int pack = 0; pack < players; pack++) {
            packs.add(new ArrayList<>());
            for (int card = 0; card < cards; card++) {
                now = (75 * now + 74) % 65537;
                packs.get(pack).add((int) (now % kinds.size()));
            }
        }
        turn = 0;
        return 0;
    }

    /** The pack at each index of the list is the one before that player: the list is turned when packs go on. */
    int offered(int place) {
        index(place >= 0);
        return packs.isEmpty() || place >= packs.get(turn).size() ? NONE : packs.get(turn).get(place);
    }

    int pick(int place) {
        index(place >= 0 && (packs.isEmpty() || place < packs.get(turn).size()));
        state(!packs.isEmpty());
        has[turn][packs.get(turn).remove(place)]++;
        turn++;
        if (turn == packs.size()) {
            turn = 0;
            Collections.rotate(packs, 1);
            if (packs.get(0).isEmpty()) {
                packs = new ArrayList<>();
                return NONE;
            }
        }
        return turn;
    }

    int wish(int player, int gives, int wants) {
        player(player);
        kindIs(gives);
        kindIs(wants);
        argument(gives != wants);
        wishes[player] = new int[] {gives, wants};
        return 0;
    }

    private boolean isRing(List<Integer> row) {
        for (int at = 0; at < row.size(); at++) {
            int[] own = wishes[row.get(at)];
            int[] next = wishes[row.get((at + 1) % row.size())];
            if (own == null || next == null || own[0] != next[1] || has[row.get(at)][own[0]] < 1) {
                return false;
            }
        }
        return row.get(0).equals(Collections.min(row));
    }

    private List<Integer> bestRing() {
        for (int length = 2; length <= 6; length++) {
            for (List<Integer> row : rows(6, length)) {
                if (isRing(row)) {
                    return row;
                }
            }
        }
        return new ArrayList<>();
    }

    int ring(int place) {
        index(0 <= place && place <= 5);
        List<Integer> best = bestRing();
        return place < best.size() ? best.get(place) : NONE;
    }

    int swap() {
        List<Integer> best = bestRing();
        for (int at = 0; at < best.size(); at++) {
            int kind = wishes[best.get(at)][0];
            has[best.get(at)][kind]--;
            has[best.get((at + 1) % best.size())][kind]++;
        }
        for (int player : best) {
            wishes[player] = null;
        }
        return best.size();
    }

    int pair(int player, int in) {
        player(player);
        argument(0 <= in && in <= 63);
        List<Integer> row = new ArrayList<>();
        for (int each = 0; each < 6; each++) {
            if ((in & 1 << each) != 0) {
                row.add(each);
            }
        }
        row.sort(Comparator.comparing((Integer each) -> -strengths[each]).thenComparing(each -> each));
        if (row.size() % 2 == 1) {
            row.remove(row.size() - 1);
        }
        // The ways in their order: each row of places whose pairs begin with the first one left is looked at.
        for (List<Integer> way : rows(row.size(), row.size())) {
            if (isWay(way, row)) {
                int at = way.indexOf(row.indexOf(player));
                return at < 0 ? NONE : row.get(way.get(at ^ 1));
            }
        }
        return NONE;
    }

    private boolean isWay(List<Integer> way, List<Integer> row) {
        for (int at = 0; at < way.size(); at += 2) {
            boolean isFirst = way.get(at).equals(Collections.min(way.subList(at, way.size())));
            if (!isFirst || met[row.get(way.get(at))][row.get(way.get(at + 1))]) {
                return false;
            }
        }
        return true;
    }

    int result(int winner, int loser) {
        player(winner);
        player(loser);
        argument(winner != loser);
        int stronger = strengths[loser] - strengths[winner];
        int quarter = stronger < 0 ? -(-stronger / 4) : stronger / 4;
        int gain = Math.max(1, Math.min(32, 16 + quarter));
        strengths[winner] += gain;
        strengths[loser] -= gain;
        met[winner][loser] = true;
        met[loser][winner] = true;
        return gain;
    }

    int has(int player, int kind) {
        player(player);
        kindIs(kind);
        return has[player][kind];
    }

    int strength(int player) {
        player(player);
        return strengths[player];
    }

    int stacked() {
        return stack.size();
    }
}
