import java.lang.reflect.InvocationTargetException;
import java.lang.reflect.Method;
import java.lang.reflect.Modifier;
import java.util.Arrays;
import java.util.Comparator;
import java.util.Random;

/** Whatever is called, with whatever arguments and however often: only what the face declares is thrown, and by hand. */
public final class AnyCallTest {
    private static final int OBJECTS = 60;
    private static final int CALLS = 3000;
    private static final int[] EDGES = {
        Integer.MIN_VALUE, Integer.MIN_VALUE + 1, -2, -1, 0, 1, 2, 3, 6, 20, 64, 1000, 65536, 65537, Integer.MAX_VALUE - 1,
        Integer.MAX_VALUE,
    };

    private AnyCallTest() {
    }

    public static void main(String[] args) throws Exception {
        Method[] face = Arrays.stream(Sleevehall.class.getDeclaredMethods())
            .filter(m -> Modifier.isPublic(m.getModifiers()))
            .sorted(Comparator.comparing(m -> m.getName())).toArray(Method[]::new);
        Due.is("how many methods are called", 22, face.length);
        for (int seed = 0; seed < OBJECTS; seed++) {
            Random random = new Random(seed);
            Sleevehall x = new Sleevehall();
            for (int times = 0; times < CALLS; times++) {
                call(x, face[random.nextInt(face.length)], random);
            }
        }
        morePlaysThanCalls();
        Due.end();
    }

    /** What is kept of plays has room for 512 calls: more of them are to do no harm, whatever is answered then. */
    private static void morePlaysThanCalls() {
        Sleevehall x = Halls.stocked();
        for (int times = 0; times < CALLS; times++) {
            Due.is("after many plays", false, Due.told(() -> x.play(1, Sleevehall.HIT, 2)).endsWith("Exception"));
            Due.is("after many doings", false, Due.told(() -> x.top()).endsWith("Exception"));
            Due.is("after many, a life anew", false, Due.told(() -> x.lifeAnew(2)).endsWith("Exception"));
        }
    }

    private static void call(Sleevehall x, Method method, Random random) throws IllegalAccessException {
        Object[] args = new Object[method.getParameterCount()];
        for (int at = 0; at < args.length; at++) {
            boolean isInt = method.getParameterTypes()[at] == int.class;
            args[at] = isInt ? (Object) number(random) : (Object) random.nextBoolean();
        }
        try {
            method.invoke(x, args);
        } catch (InvocationTargetException e) {
            String what = method.getName() + Arrays.toString(args) + " throws " + e.getCause();
            boolean isDeclared = Arrays.asList(method.getExceptionTypes()).contains(e.getCause().getClass());
            Due.is(what + ", as declared", true, isDeclared);
            Due.is(what + ", by hand", true, isByHand(e.getCause()));
        }
    }

    private static int number(Random random) {
        int way = random.nextInt(20);
        if (way == 0) {
            return random.nextInt();
        }
        return way < 4 ? EDGES[random.nextInt(EDGES.length)] : random.nextInt(7);
    }

    /** The machine's own texts begin in these ways, or it gives none. */
    private static boolean isByHand(Throwable thrown) {
        String text = thrown.getMessage();
        return text != null && !text.matches("(Index \\d|Cannot |/ by|arraycopy|Array index|Range ).*");
    }
}
