/**
 * A hall of trading cards: kinds and their bans, a stack of plays, decks and drafts, swaps in rings and pairs by
 * strength. The document ../shared/DOC.md tells each call; ../shared/LANGUAGE.md binds this file.
 */
public final class Sleevehall {
    public static final int NONE = -1;
    public static final int HIT = 0, HEAL = 1, GUARD = 2, STOP = 3, TWICE = 4, TURN = 5;

    private static final int PLAYERS = 6;
    private static final int MOST_KINDS = 20;
    private static final int MOST_NUMBER = 9;
    private static final int MOST_GIVEN = 9;
    private static final int LAST_DAY = 1000;
    private static final int MOST_DAYS = 100;
    private static final int MOST_STACKED = 6;
    private static final int MOST_CALLS = 512;

    private final Kinds kinds = new Kinds();
    private final Shelf shelf = new Shelf();
    private final Table table = new Table();
    private final Orders orders = new Orders();
    private final History history = new History();
    private final Draft draft = new Draft();
    private final Wishes wishes = new Wishes();
    private final Matches matches = new Matches();
    private int today;

    public Sleevehall() {
    }

    // ---- cards

    public int kind(int effect, int number) throws IllegalArgumentException, IllegalStateException {
        if (effect < HIT || effect > TURN) {
            throw new IllegalArgumentException("the effect is none of HIT to TURN");
        }
        if (number < 1 || number > MOST_NUMBER) {
            throw new IllegalArgumentException("the number is not 1 to 9");
        }
        if (kinds.count >= MOST_KINDS) {
            throw new IllegalStateException("there are 20 kinds");
        }
        return kinds.add(effect, number);
    }

    public int ban(int kind, int day) throws IndexOutOfBoundsException, IllegalArgumentException {
        needKind(kind);
        needDay(day);
        kinds.bans[kind] = day;
        return shelf.countDecksWith(kind);
    }

    public int get(int player, int kind, int many) throws IndexOutOfBoundsException, IllegalArgumentException {
        needPlayer(player);
        needKind(kind);
        if (many < 1 || many > MOST_GIVEN) {
            throw new IllegalArgumentException("many is not 1 to 9");
        }
        shelf.cards[player][kind] += many;
        return shelf.cards[player][kind];
    }

    public int pass(int days) throws IllegalArgumentException, IllegalStateException {
        if (days < 1 || days > MOST_DAYS) {
            throw new IllegalArgumentException("days is not 1 to 100");
        }
        if (today + days > LAST_DAY) {
            throw new IllegalStateException("the day would be above 1000");
        }
        today += days;
        return today;
    }

    // ---- the stack

    public int play(int player, int kind, int against) throws IndexOutOfBoundsException, IllegalStateException {
        needPlayer(player);
        needKind(kind);
        needPlayer(against);
        if (shelf.cards[player][kind] < 1) {
            throw new IllegalStateException("the card is not in the collection");
        }
        if (kinds.isBanned(kind, today)) {
            throw new IllegalStateException("the card is banned");
        }
        if (table.size >= MOST_STACKED) {
            throw new IllegalStateException("there are 6 plays on the stack");
        }
        table.lay(kinds.effects[kind], kinds.numbers[kind], player, against);
        history.addPlay(kinds.effects[kind], kinds.numbers[kind], player, against);
        return table.size;
    }

    public int top() throws IllegalStateException {
        if (table.size == 0) {
            throw new IllegalStateException("the stack is empty");
        }
        if (!table.doTop()) {
            throw new IllegalStateException("the doing is refused");
        }
        history.addDoing();
        return table.size;
    }

    public int bound(int player, boolean isGreatest) throws IndexOutOfBoundsException {
        needPlayer(player);
        return orders.find(table, player, isGreatest);
    }

    public int life(int player, boolean isShield) throws IndexOutOfBoundsException {
        needPlayer(player);
        return isShield ? table.shields[player] : table.lives[player];
    }

    public int lifeAnew(int player) throws IndexOutOfBoundsException {
        needPlayer(player);
        return history.findLife(player);
    }

    // ---- decks, drafts

    public int put(int player, int kind) throws IndexOutOfBoundsException, IllegalStateException {
        needPlayer(player);
        needKind(kind);
        if (shelf.isDeckFull(player)) {
            throw new IllegalStateException("the deck has 8 cards");
        }
        if (!shelf.mayTakeMore(player, kind)) {
            throw new IllegalStateException("the deck has as many of the kind as it may");
        }
        return shelf.addToDeck(player, kind);
    }

    public boolean isGood(int player, int day) throws IndexOutOfBoundsException, IllegalArgumentException {
        needPlayer(player);
        needDay(day);
        return shelf.isDeckGood(player, kinds, day);
    }

    public void draft(int players, int cards, int x) throws IllegalArgumentException, IllegalStateException {
        if (players < Draft.LEAST_PLAYERS || players > PLAYERS) {
            throw new IllegalArgumentException("players is not 2 to 6");
        }
        if (cards < Draft.LEAST_CARDS || cards > Draft.MOST_CARDS) {
            throw new IllegalArgumentException("cards is not 3 to 6");
        }
        if (x < 0 || x >= Draft.MODULUS) {
            throw new IllegalArgumentException("x is not 0 to 65536");
        }
        if (kinds.count == 0) {
            throw new IllegalStateException("there are no kinds");
        }
        draft.begin(players, cards, x, kinds.count);
    }

    public int offered(int place) throws IndexOutOfBoundsException {
        if (place < 0) {
            throw new IndexOutOfBoundsException("the place is below 0");
        }
        return place < draft.countOffered() ? draft.kindAt(place) : NONE;
    }

    public int pick(int place) throws IndexOutOfBoundsException, IllegalStateException {
        if (place < 0) {
            throw new IndexOutOfBoundsException("the place is below 0");
        }
        if (!draft.goesOn()) {
            throw new IllegalStateException("no draft goes on");
        }
        if (place >= draft.countOffered()) {
            throw new IndexOutOfBoundsException("the pack has not so many cards");
        }
        shelf.cards[draft.turn][draft.kindAt(place)]++;
        draft.takeOut(place);
        return draft.goesOn() ? draft.turn : NONE;
    }

    // ---- swaps

    public void wish(int player, int gives, int wants) throws IndexOutOfBoundsException, IllegalArgumentException {
        needPlayer(player);
        needKind(gives);
        needKind(wants);
        if (gives == wants) {
            throw new IllegalArgumentException("both kinds are the same");
        }
        wishes.tell(player, gives, wants);
    }

    public int ring(int place) throws IndexOutOfBoundsException {
        if (place < 0 || place >= PLAYERS) {
            throw new IndexOutOfBoundsException("the place is not 0 to 5");
        }
        int many = wishes.findBest(shelf.cards);
        return place < many ? wishes.row[place] : NONE;
    }

    public int swap() {
        int many = wishes.findBest(shelf.cards);
        wishes.fulfil(many, shelf.cards);
        return many;
    }

    // ---- pairs

    public int pair(int player, int in) throws IndexOutOfBoundsException, IllegalArgumentException {
        needPlayer(player);
        if (in < 0 || in >= 1 << PLAYERS) {
            throw new IllegalArgumentException("in is not 0 to 63");
        }
        return matches.findOther(player, in);
    }

    public int result(int winner, int loser) throws IndexOutOfBoundsException, IllegalArgumentException {
        needPlayer(winner);
        needPlayer(loser);
        if (winner == loser) {
            throw new IllegalArgumentException("both players are the same");
        }
        return matches.tell(winner, loser);
    }

    // ---- questions

    public int has(int player, int kind) throws IndexOutOfBoundsException {
        needPlayer(player);
        needKind(kind);
        return shelf.cards[player][kind];
    }

    public int strength(int player) throws IndexOutOfBoundsException {
        needPlayer(player);
        return matches.strengths[player];
    }

    public int stacked() {
        return table.size;
    }

    private static void needPlayer(int player) throws IndexOutOfBoundsException {
        if (player < 0 || player >= PLAYERS) {
            throw new IndexOutOfBoundsException("there is no such player");
        }
    }

    private void needKind(int kind) throws IndexOutOfBoundsException {
        if (kind < 0 || kind >= kinds.count) {
            throw new IndexOutOfBoundsException("there is no such kind");
        }
    }

    private void needDay(int day) throws IllegalArgumentException {
        if (day < today || day > LAST_DAY) {
            throw new IllegalArgumentException("the day is not today to 1000");
        }
    }

    /** The kinds of cards that were printed, and from which day on each is banned. */
    private static final class Kinds {
        private static final int NEVER = LAST_DAY + 1;

        final int[] effects = new int[MOST_KINDS];
        final int[] numbers = new int[MOST_KINDS];
        final int[] bans = new int[MOST_KINDS];
        int count;

        int add(int effect, int number) {
            if (count >= MOST_KINDS) {
                return NONE;
            }
            effects[count] = effect;
            numbers[count] = number;
            bans[count] = NEVER;
            count++;
            return count - 1;
        }

        boolean isBanned(int kind, int day) {
            return bans[kind] <= day;
        }
    }

    /** The collections and the decks of all players, as how many cards of each kind. */
    private static final class Shelf {
        private static final int MOST_IN_DECK = 8;
        private static final int LEAST_IN_DECK = 4;
        private static final int MOST_ALIKE = 3;

        final int[][] cards = new int[PLAYERS][MOST_KINDS];
        private final int[][] decks = new int[PLAYERS][MOST_KINDS];
        private final int[] deckSizes = new int[PLAYERS];

        int countDecksWith(int kind) {
            int many = 0;
            for (int player = 0; player < PLAYERS; player++) {
                if (decks[player][kind] > 0) {
                    many++;
                }
            }
            return many;
        }

        boolean isDeckFull(int player) {
            return deckSizes[player] >= MOST_IN_DECK;
        }

        boolean mayTakeMore(int player, int kind) {
            return decks[player][kind] < mostInDeck(player, kind);
        }

        int addToDeck(int player, int kind) {
            decks[player][kind]++;
            deckSizes[player]++;
            return deckSizes[player];
        }

        boolean isDeckGood(int player, Kinds kinds, int day) {
            if (deckSizes[player] < LEAST_IN_DECK) {
                return false;
            }
            for (int kind = 0; kind < MOST_KINDS; kind++) {
                // A swap can take a card out of the collection after it was put into the deck.
                boolean isTooMany = decks[player][kind] > mostInDeck(player, kind);
                if (isTooMany || decks[player][kind] > 0 && kinds.isBanned(kind, day)) {
                    return false;
                }
            }
            return true;
        }

        private int mostInDeck(int player, int kind) {
            return Math.min(cards[player][kind], MOST_ALIKE);
        }
    }

    /** A stack of plays, the highest place on top, and the lives and shields that it works on. */
    private static final class Table {
        private static final int FIRST_LIFE = 20;

        final int[] lives = new int[PLAYERS];
        final int[] shields = new int[PLAYERS];
        final int[] effects = new int[MOST_STACKED];
        final int[] numbers = new int[MOST_STACKED];
        final int[] players = new int[MOST_STACKED];
        final int[] against = new int[MOST_STACKED];
        int size;

        Table() {
            clear();
        }

        void clear() {
            for (int player = 0; player < PLAYERS; player++) {
                lives[player] = FIRST_LIFE;
                shields[player] = 0;
            }
            size = 0;
        }

        void copyFrom(Table other) {
            for (int player = 0; player < PLAYERS; player++) {
                lives[player] = other.lives[player];
                shields[player] = other.shields[player];
            }
            for (int place = 0; place < other.size; place++) {
                effects[place] = other.effects[place];
                numbers[place] = other.numbers[place];
                players[place] = other.players[place];
                against[place] = other.against[place];
            }
            size = other.size;
        }

        void lay(int effect, int number, int player, int target) {
            if (size >= MOST_STACKED) {
                return;
            }
            effects[size] = effect;
            numbers[size] = number;
            players[size] = player;
            against[size] = target;
            size++;
        }

        /** Returns whether the top one was done; nothing is changed if not. */
        boolean doTop() {
            int place = size - 1;
            if (place < 0 || !act(place)) {
                return false;
            }
            size--;
            return true;
        }

        private boolean act(int place) {
            switch (effects[place]) {
                case STOP:
                    takeOff(nearestByOther(place));
                    return true;
                case TWICE:
                    return place == 0 || makeTwice(place - 1);
                case TURN:
                    turn((1 << place) - 1);
                    return true;
                default:
                    return touch(place);
            }
        }

        private int nearestByOther(int place) {
            for (int below = place - 1; below >= 0; below--) {
                if (players[below] != players[place]) {
                    return below;
                }
            }
            return NONE;
        }

        private void takeOff(int place) {
            if (place < 0) {
                return;
            }
            for (int above = place + 1; above < size; above++) {
                effects[above - 1] = effects[above];
                numbers[above - 1] = numbers[above];
                players[above - 1] = players[above];
                against[above - 1] = against[above];
            }
            size--;
        }

        /** Returns whether the number was doubled, as it was not if it would be no int. */
        boolean makeTwice(int place) {
            if (numbers[place] > Integer.MAX_VALUE / 2) {
                return false;
            }
            numbers[place] *= 2;
            return true;
        }

        /** Makes HIT of HEAL and HEAL of HIT at the places of a set of bits; told twice, nothing is changed. */
        void turn(int places) {
            for (int place = 0; place < size; place++) {
                boolean isMeant = (places >> place & 1) == 1;
                if (isMeant && effects[place] == HIT) {
                    effects[place] = HEAL;
                } else if (isMeant && effects[place] == HEAL) {
                    effects[place] = HIT;
                }
            }
        }

        /** Returns whether the HIT, HEAL or GUARD at the place was done; nothing is changed if not. */
        boolean touch(int place) {
            int player = against[place];
            int number = numbers[place];
            long life = lives[player];
            long shield = shields[player];
            if (effects[place] == HIT) {
                int taken = Math.min(shields[player], number);
                shield -= taken;
                life -= number - taken;
            } else if (effects[place] == HEAL) {
                life += number;
            } else {
                shield += number;
            }
            if (life < Integer.MIN_VALUE || life > Integer.MAX_VALUE || shield > Integer.MAX_VALUE) {
                return false;
            }
            lives[player] = (int) life;
            shields[player] = (int) shield;
            return true;
        }
    }

    /**
     * All orders in which a stack could be done. They are not written out: those left have no order yet, and each doing
     * settles only as much of it as it looks at. That is enough, as the order of the others stays free.
     */
    private static final class Orders {
        private final Table work = new Table();
        private int player;
        private boolean isGreatest;
        private boolean isFound;
        private int best;

        int find(Table from, int whose, boolean greatest) {
            work.copyFrom(from);
            player = whose;
            isGreatest = greatest;
            isFound = false;
            best = NONE;
            goOn((1 << from.size) - 1, 0);
            return best;
        }

        /** Lets each of those left, a set of bits, lie on top. */
        private void goOn(int left, int depth) {
            if (left == 0) {
                note();
                return;
            }
            for (int place = 0; place < work.size; place++) {
                if (isIn(left, place)) {
                    doNext(place, left & ~(1 << place), depth + 1);
                }
            }
        }

        /** Does the one at the place, and then those left. */
        private void doNext(int place, int left, int depth) {
            if (depth > MOST_STACKED) {
                return;
            }
            switch (work.effects[place]) {
                case STOP:
                    stopAny(work.players[place], left, depth);
                    break;
                case TWICE:
                    doubleAny(left, depth);
                    break;
                case TURN:
                    work.turn(left);
                    goOn(left, depth);
                    work.turn(left);
                    break;
                default:
                    touch(place, left, depth);
                    break;
            }
        }

        /** Any of those by others can be the nearest one, and leaves the rest in any order. */
        private void stopAny(int stopper, int left, int depth) {
            boolean isStopped = false;
            for (int place = 0; place < work.size; place++) {
                if (isIn(left, place) && work.players[place] != stopper) {
                    isStopped = true;
                    goOn(left & ~(1 << place), depth);
                }
            }
            if (!isStopped) {
                goOn(left, depth);
            }
        }

        /** Any of those left can be the next one below, and is then done next. */
        private void doubleAny(int left, int depth) {
            if (left == 0) {
                goOn(left, depth);
            }
            for (int place = 0; place < work.size; place++) {
                int number = work.numbers[place];
                if (isIn(left, place) && work.makeTwice(place)) {
                    doNext(place, left & ~(1 << place), depth + 1);
                    work.numbers[place] = number;
                }
            }
        }

        private void touch(int place, int left, int depth) {
            int target = work.against[place];
            int life = work.lives[target];
            int shield = work.shields[target];
            if (work.touch(place)) {
                goOn(left, depth);
                work.lives[target] = life;
                work.shields[target] = shield;
            }
        }

        private void note() {
            int life = work.lives[player];
            if (!isFound || (isGreatest ? life > best : life < best)) {
                best = life;
            }
            isFound = true;
        }

        private static boolean isIn(int set, int place) {
            return (set >> place & 1) == 1;
        }
    }

    /** All that was played and done, to be gone through again. */
    private static final class History {
        private static final int DOING = -1;

        private final int[] deeds = new int[MOST_CALLS];
        private final Table anew = new Table();
        private int count;

        void addPlay(int effect, int number, int player, int target) {
            add(effect << 10 | number << 6 | player << 3 | target);
        }

        void addDoing() {
            add(DOING);
        }

        private void add(int deed) {
            if (count < MOST_CALLS) {
                deeds[count] = deed;
                count++;
            }
        }

        int findLife(int player) {
            anew.clear();
            for (int at = 0; at < count; at++) {
                int deed = deeds[at];
                if (deed == DOING) {
                    anew.doTop();
                } else {
                    anew.lay(deed >> 10, deed >> 6 & 15, deed >> 3 & 7, deed & 7);
                }
            }
            return anew.lives[player];
        }
    }

    /** A draft, with a pack for each of its players. */
    private static final class Draft {
        static final int LEAST_PLAYERS = 2;
        static final int LEAST_CARDS = 3;
        static final int MOST_CARDS = 6;
        static final int MODULUS = 65537;

        private final int[][] packs = new int[PLAYERS][MOST_CARDS];
        private int players;
        private int cards;
        private int round;
        int turn;

        void begin(int many, int each, int seed, int kinds) {
            if (kinds < 1) {
                return;
            }
            int x = seed;
            for (int pack = 0; pack < many; pack++) {
                for (int place = 0; place < each; place++) {
                    x = (75 * x + 74) % MODULUS;
                    packs[pack][place] = x % kinds;
                }
            }
            players = many;
            cards = each;
            round = 0;
            turn = 0;
        }

        boolean goesOn() {
            return round < cards;
        }

        /** Returns how many cards the pack has that is before the player whose turn it is. */
        int countOffered() {
            return cards - round;
        }

        int kindAt(int place) {
            return packs[packInTurn()][place];
        }

        void takeOut(int place) {
            int pack = packInTurn();
            for (int behind = place + 1; behind < countOffered(); behind++) {
                packs[pack][behind - 1] = packs[pack][behind];
            }
            turn++;
            if (turn >= players) {
                turn = 0;
                round++;
            }
        }

        private int packInTurn() {
            return players < 1 ? 0 : Math.floorMod(turn - round, players);
        }
    }

    /** The wishes of players, and the best ring among them. */
    private static final class Wishes {
        private static final int LEAST_IN_RING = 2;

        private final int[] gives = new int[PLAYERS];
        private final int[] wants = new int[PLAYERS];
        private int givers;
        final int[] row = new int[PLAYERS];

        Wishes() {
            for (int player = 0; player < PLAYERS; player++) {
                gives[player] = NONE;
                wants[player] = NONE;
            }
        }

        void tell(int player, int give, int want) {
            gives[player] = give;
            wants[player] = want;
        }

        /** Puts the best ring into the row; returns how many players it has, 0 if there is none. */
        int findBest(int[][] cards) {
            findGivers(cards);
            for (int many = LEAST_IN_RING; many <= PLAYERS; many++) {
                for (int first = 0; first < PLAYERS; first++) {
                    if (isGiver(first) && joins(first, 0, many)) {
                        return many;
                    }
                }
            }
            return 0;
        }

        void fulfil(int many, int[][] cards) {
            for (int place = 0; place < many; place++) {
                int player = row[place];
                cards[player][gives[player]]--;
                cards[player][wants[player]]++;
                tell(player, NONE, NONE);
            }
        }

        private void findGivers(int[][] cards) {
            givers = 0;
            for (int player = 0; player < PLAYERS; player++) {
                if (gives[player] >= 0 && cards[player][gives[player]] > 0) {
                    givers |= 1 << player;
                }
            }
        }

        private boolean isGiver(int player) {
            return (givers >> player & 1) == 1;
        }

        /** Returns whether the row up to the player, who comes at the place, can be made a ring of so many. */
        private boolean joins(int player, int place, int many) {
            if (place >= PLAYERS) {
                return false;
            }
            row[place] = player;
            return isRing(place + 1, many);
        }

        private boolean isRing(int length, int many) {
            int last = row[length - 1];
            if (length == many) {
                return gives[last] == wants[row[0]];
            }
            for (int next = row[0] + 1; next < PLAYERS; next++) {
                boolean fits = isGiver(next) && gives[last] == wants[next] && !isInRow(next, length);
                if (fits && joins(next, length, many)) {
                    return true;
                }
            }
            return false;
        }

        private boolean isInRow(int player, int length) {
            for (int place = 0; place < length; place++) {
                if (row[place] == player) {
                    return true;
                }
            }
            return false;
        }
    }

    /** The strengths of players, who has met whom, and the pairs that follow. */
    private static final class Matches {
        private static final int FIRST_STRENGTH = 1000;
        private static final int EVEN_GAIN = 16;
        private static final int LEAST_GAIN = 1;
        private static final int MOST_GAIN = 32;

        final int[] strengths = new int[PLAYERS];
        private final int[] met = new int[PLAYERS];
        private final int[] row = new int[PLAYERS];
        private final int[] others = new int[PLAYERS];
        private int length;

        Matches() {
            for (int player = 0; player < PLAYERS; player++) {
                strengths[player] = FIRST_STRENGTH;
            }
        }

        int tell(int winner, int loser) {
            int quarter = (strengths[loser] - strengths[winner]) / 4;
            int gain = Math.max(LEAST_GAIN, Math.min(MOST_GAIN, EVEN_GAIN + quarter));
            strengths[winner] += gain;
            strengths[loser] -= gain;
            met[winner] |= 1 << loser;
            met[loser] |= 1 << winner;
            return gain;
        }

        int findOther(int player, int in) {
            makeRow(in);
            for (int each = 0; each < PLAYERS; each++) {
                others[each] = NONE;
            }
            int paired = length - length % 2;
            return canPair((1 << paired) - 1, 0) ? others[player] : NONE;
        }

        private void makeRow(int in) {
            length = 0;
            for (int player = 0; player < PLAYERS; player++) {
                if ((in >> player & 1) == 1) {
                    putIntoRow(player);
                }
            }
        }

        /** Players come with the lowest first, so that one who is alike stays behind. */
        private void putIntoRow(int player) {
            if (length >= PLAYERS) {
                return;
            }
            int place = length;
            while (place > 0 && strengths[row[place - 1]] < strengths[player]) {
                row[place] = row[place - 1];
                place--;
            }
            row[place] = player;
            length++;
        }

        /** Returns whether all at the places left, a set of bits, can be paired. */
        private boolean canPair(int left, int depth) {
            if (left == 0) {
                return true;
            }
            int first = 0;
            while (first < PLAYERS && (left >> first & 1) == 0) {
                first++;
            }
            for (int second = first + 1; second < length; second++) {
                if ((left >> second & 1) == 1 && canPairBoth(first, second, left, depth + 1)) {
                    return true;
                }
            }
            return false;
        }

        private boolean canPairBoth(int first, int second, int left, int depth) {
            int one = row[first];
            int other = row[second];
            boolean haveMet = (met[one] >> other & 1) == 1;
            if (haveMet || depth > PLAYERS || !canPair(left & ~(1 << first) & ~(1 << second), depth)) {
                return false;
            }
            // Only here is it known that the rest can be paired too: no way that fails leaves a mark.
            others[one] = other;
            others[other] = one;
            return true;
        }
    }
}
