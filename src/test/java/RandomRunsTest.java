import java.util.ArrayList;
import java.util.List;
import java.util.Random;

/** Runs of up to 512 calls, drawn from fixed seeds, on the class and on the oracle, which must answer alike. */
public final class RandomRunsTest {
    private static final int MOST_CALLS = 512;
    private static final int RUNS = 400;
    private static final String[] CALLS = {
        "kind", "ban", "get", "pass", "play", "top", "bound", "life", "lifeAnew", "put", "isGood", "draft", "offered",
        "pick", "wish", "ring", "swap", "pair", "result", "has", "strength", "stacked",
    };
    /** How often each call is drawn, in the order of the names above: all alike, the stack, cards, swaps and pairs. */
    private static final int[][] PROFILES = {
        {3, 1, 3, 1, 3, 3, 1, 2, 2, 3, 2, 1, 2, 3, 3, 2, 2, 2, 2, 2, 2, 1},
        {1, 0, 1, 0, 9, 6, 2, 4, 2, 0, 0, 0, 0, 0, 0, 0, 0, 0, 0, 0, 0, 1},
        {2, 2, 3, 1, 0, 0, 0, 0, 0, 9, 6, 1, 4, 9, 2, 1, 2, 0, 0, 4, 0, 0},
        {0, 0, 2, 0, 0, 0, 0, 0, 0, 1, 1, 0, 0, 0, 9, 4, 2, 6, 2, 3, 2, 0},
    };

    private final Random random;
    private final int[] profile;
    private final Sleevehall hall = new Sleevehall();
    private final Oracle oracle = new Oracle();
    private final List<String> told = new ArrayList<>();
    private boolean isWrong = false;
    private int kinds = 0;
    private int day = 0;

    private RandomRunsTest(int seed) {
        random = new Random(seed);
        profile = PROFILES[seed % PROFILES.length];
    }

    public static void main(String[] args) {
        for (int seed = 0; seed < RUNS; seed++) {
            new RandomRunsTest(seed).run(seed);
        }
        Due.end();
    }

    private void run(int seed) {
        int first = 1 + random.nextInt(8);
        for (int at = 0; at < first; at++) {
            both("kind", at < 6 && random.nextBoolean() ? at : random.nextInt(6), 1 + random.nextInt(9), 0);
        }
        for (int at = 0; at < 12; at++) {
            both("get", random.nextInt(6), random.nextInt(first), 1 + random.nextInt(9));
        }
        for (int at = 0; at < 3 * first && seed % 2 == 1; at++) {
            both("get", at % 3, at / 3, 1);
        }
        if (seed % 8 == 1) {
            makeGreat();
        }
        while (!isWrong && told.size() < MOST_CALLS) {
            drawCall();
        }
        Due.same("run " + seed, "", isWrong ? String.join("; ", told) : "");
    }

    /** Doubles a number until it is near the greatest int, so that doings come to be refused. */
    private void makeGreat() {
        int great = kinds;
        both("kind", random.nextInt(3), 9, 0);
        both("kind", Sleevehall.TWICE, 1, 0);
        both("get", 0, great, 1);
        both("get", 1, great + 1, 1);
        int lower = random.nextInt(3);
        for (int at = 0; at <= lower; at++) {
            both("play", 0, great, random.nextInt(3));
        }
        int times = 24 + random.nextInt(6);
        for (int at = 0; at < times; at++) {
            both("play", 1, great + 1, 0);
            both("top", 0, 0, 0);
        }
    }

    private void drawCall() {
        int sum = 0;
        for (int weight : profile) {
            sum += weight;
        }
        int drawn = random.nextInt(sum);
        int at = 0;
        while (drawn >= profile[at]) {
            drawn -= profile[at];
            at++;
        }
        draw(CALLS[at]);
    }

    private void draw(String name) {
        switch (name) {
            case "kind" -> both(name, near(0, 5), near(1, 9), 0);
            case "ban" -> both(name, near(0, kinds - 1), aDay(), 0);
            case "get" -> both(name, near(0, 5), near(0, kinds - 1), near(1, 9));
            case "pass" -> both(name, random.nextInt(3) == 0 ? near(1, 100) : near(1, 3), 0, 0);
            case "play" -> both(name, near(0, random.nextBoolean() ? 2 : 5), near(0, kinds - 1), near(0, 5));
            case "bound", "life" -> both(name, near(0, 5), random.nextInt(2), 0);
            case "put" -> both(name, near(0, 2), near(0, kinds - 1), 0);
            case "isGood" -> both(name, near(0, 2), aDay(), 0);
            case "draft" -> both(name, near(2, 6), near(3, 6), near(0, 65536));
            case "offered", "pick" -> both(name, near(0, 4), 0, 0);
            case "wish" -> both(name, near(0, 5), near(0, Math.min(2, kinds - 1)), near(0, Math.min(2, kinds - 1)));
            case "pair" -> both(name, near(0, 5), random.nextInt(3) == 0 ? 63 : near(0, 63), 0);
            case "result" -> both(name, near(0, 5), near(0, 5), 0);
            case "has" -> both(name, near(0, 5), near(0, kinds - 1), 0);
            default -> both(name, near(0, 5), 0, 0);
        }
    }

    /** A number of a range, at times one just outside of it or far away. */
    private int near(int least, int greatest) {
        int way = random.nextInt(60);
        if (way == 0) {
            return least - 1;
        }
        if (way == 1) {
            return greatest + 1;
        }
        if (way == 2) {
            return random.nextInt();
        }
        return greatest < least ? least : least + random.nextInt(greatest - least + 1);
    }

    private int aDay() {
        return random.nextInt(4) == 0 ? near(day, 1000) : near(day, Math.min(1000, day + 4));
    }

    private void both(String name, int a, int b, int c) {
        if (isWrong) {
            return;
        }
        String due = Due.told(() -> askOracle(name, a, b, c));
        String got = Due.told(() -> askHall(name, a, b, c));
        told.add(name + "(" + a + ", " + b + ", " + c + ") " + got);
        if (!due.equals(got)) {
            isWrong = true;
            told.add("due is " + due);
        }
        if (name.equals("kind") && due.equals("" + kinds)) {
            kinds++;
        }
        if (name.equals("pass") && !due.startsWith("I")) {
            day = Integer.parseInt(due);
        }
    }

    private long askHall(String name, int a, int b, int c) {
        switch (name) {
            case "kind": return hall.kind(a, b);
            case "ban": return hall.ban(a, b);
            case "get": return hall.get(a, b, c);
            case "pass": return hall.pass(a);
            case "play": return hall.play(a, b, c);
            case "top": return hall.top();
            case "bound": return hall.bound(a, b == 1);
            case "life": return hall.life(a, b == 1);
            case "lifeAnew": return hall.lifeAnew(a);
            case "put": return hall.put(a, b);
            case "isGood": return hall.isGood(a, b) ? 1 : 0;
            case "draft": hall.draft(a, b, c); return 0;
            case "offered": return hall.offered(a);
            case "pick": return hall.pick(a);
            case "wish": hall.wish(a, b, c); return 0;
            case "ring": return hall.ring(a);
            case "swap": return hall.swap();
            case "pair": return hall.pair(a, b);
            case "result": return hall.result(a, b);
            case "has": return hall.has(a, b);
            case "strength": return hall.strength(a);
            default: return hall.stacked();
        }
    }

    private long askOracle(String name, int a, int b, int c) {
        switch (name) {
            case "kind": return oracle.kind(a, b);
            case "ban": return oracle.ban(a, b);
            case "get": return oracle.get(a, b, c);
            case "pass": return oracle.pass(a);
            case "play": return oracle.play(a, b, c);
            case "top": return oracle.top();
            case "bound": return oracle.bound(a, b == 1);
            case "life": return oracle.life(a, b == 1);
            case "lifeAnew": return oracle.lifeAnew(a);
            case "put": return oracle.put(a, b);
            case "isGood": return oracle.isGood(a, b) ? 1 : 0;
            case "draft": return oracle.draft(a, b, c);
            case "offered": return oracle.offered(a);
            case "pick": return oracle.pick(a);
            case "wish": return oracle.wish(a, b, c);
            case "ring": return oracle.ring(a);
            case "swap": return oracle.swap();
            case "pair": return oracle.pair(a, b);
            case "result": return oracle.result(a, b);
            case "has": return oracle.has(a, b);
            case "strength": return oracle.strength(a);
            default: return oracle.stacked();
        }
    }
}
