import java.lang.management.ManagementFactory;

/** All calls of a run live in one room: only a new object takes of it, no call that answers does. */
public final class RoomTest {
    private static final int CALLS = 500;
    private static final int MOST_BYTES_OF_AN_OBJECT = 20_000;
    /** What the measuring itself may take, whatever the machine does beside it: less than a byte for each call. */
    private static final int MOST_BYTES_OF_CALLS = CALLS;

    private static final com.sun.management.ThreadMXBean ROOM =
        (com.sun.management.ThreadMXBean) ManagementFactory.getThreadMXBean();

    private RoomTest() {
    }

    public static void main(String[] args) {
        // The first object of all also takes what the machine needs to load the classes.
        allCalls(new Sleevehall());
        long before = taken();
        Sleevehall x = new Sleevehall();
        long made = taken() - before;
        Due.is("a new object takes " + made + " bytes, too many", true, made <= MOST_BYTES_OF_AN_OBJECT);
        allCalls(x);
        before = taken();
        for (int times = 0; times < CALLS; times++) {
            allCalls(x);
        }
        long called = taken() - before;
        Due.is("the calls take " + called + " bytes, too many", true, called <= MOST_BYTES_OF_CALLS);
        Due.end();
    }

    private static long taken() {
        return ROOM.getThreadAllocatedBytes(Thread.currentThread().getId());
    }

    /** Calls that all answer, and that leave room on the stack for the next time. */
    private static void allCalls(Sleevehall x) {
        if (x.pair(0, 3) == 1) {
            for (int effect = Sleevehall.HIT; effect <= Sleevehall.TURN; effect++) {
                x.kind(effect, 3);
            }
            x.pass(1);
            x.get(0, 4, 1);
            x.put(0, 4);
        }
        for (int kind = 0; kind < 6; kind++) {
            x.get(kind, kind, 1);
            x.play(kind, kind, 1);
        }
        x.bound(1, true);
        x.bound(1, false);
        while (x.stacked() > 0) {
            x.top();
        }
        x.lifeAnew(1);
        x.life(1, true);
        x.draft(6, 6, 1);
        x.offered(0);
        x.pick(0);
        x.isGood(0, 1000);
        x.ban(0, 1000);
        for (int player = 0; player < 6; player++) {
            x.wish(player, player, (player + 1) % 6);
        }
        x.ring(0);
        x.swap();
        x.pair(2, 63);
        x.result(0, 1);
        x.has(0, 0);
        x.strength(0);
    }
}
