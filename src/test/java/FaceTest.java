import java.lang.reflect.Constructor;
import java.lang.reflect.Field;
import java.lang.reflect.Method;
import java.lang.reflect.Modifier;
import java.nio.file.Files;
import java.nio.file.Path;
import java.util.Arrays;
import java.util.TreeSet;

/** The public face is the document's, and the file keeps to those rules of the language that its text shows. */
public final class FaceTest {
    private static final String[] FACE = {
        "int kind(int,int) IllegalArgumentException IllegalStateException",
        "int ban(int,int) IndexOutOfBoundsException IllegalArgumentException",
        "int get(int,int,int) IndexOutOfBoundsException IllegalArgumentException",
        "int pass(int) IllegalArgumentException IllegalStateException",
        "int play(int,int,int) IndexOutOfBoundsException IllegalStateException",
        "int top() IllegalStateException",
        "int bound(int,boolean) IndexOutOfBoundsException",
        "int life(int,boolean) IndexOutOfBoundsException",
        "int lifeAnew(int) IndexOutOfBoundsException",
        "int put(int,int) IndexOutOfBoundsException IllegalStateException",
        "boolean isGood(int,int) IndexOutOfBoundsException IllegalArgumentException",
        "void draft(int,int,int) IllegalArgumentException IllegalStateException",
        "int offered(int) IndexOutOfBoundsException",
        "int pick(int) IndexOutOfBoundsException IllegalStateException",
        "void wish(int,int,int) IndexOutOfBoundsException IllegalArgumentException",
        "int ring(int) IndexOutOfBoundsException",
        "int swap()",
        "int pair(int,int) IndexOutOfBoundsException IllegalArgumentException",
        "int result(int,int) IndexOutOfBoundsException IllegalArgumentException",
        "int has(int,int) IndexOutOfBoundsException",
        "int strength(int) IndexOutOfBoundsException",
        "int stacked()",
    };
    private static final String[] FORBIDDEN = {
        "import ", "package ", "->", "::", " try ", "catch", "finally", "synchronized", "assert ", "native",
        "volatile", "transient", "System.", "Exact(", "Object", "\t",
    };
    private static final int LONGEST_METHOD = 60;

    private FaceTest() {
    }

    public static void main(String[] args) throws Exception {
        methods();
        fields();
        constructors();
        text();
        Due.end();
    }

    private static void methods() {
        TreeSet<String> got = new TreeSet<>();
        TreeSet<String> publicNames = new TreeSet<>();
        TreeSet<String> privateNames = new TreeSet<>();
        for (Method m : Sleevehall.class.getDeclaredMethods()) {
            if (Modifier.isPrivate(m.getModifiers())) {
                privateNames.add(m.getName());
                continue;
            }
            publicNames.add(m.getName());
            Due.is(m.getName() + " is public and nothing more", Modifier.PUBLIC, m.getModifiers());
            got.add(face(m));
        }
        Due.same("the methods", new TreeSet<>(Arrays.asList(FACE)).toString(), got.toString());
        for (Class<?> inside : Sleevehall.class.getDeclaredClasses()) {
            Due.is(inside.getName() + " is not public", false, Modifier.isPublic(inside.getModifiers()));
            for (Method m : inside.getDeclaredMethods()) {
                privateNames.add(m.getName());
            }
        }
        privateNames.retainAll(publicNames);
        Due.same("names that are private and public", "[]", privateNames.toString());
    }

    private static String face(Method m) {
        StringBuilder text = new StringBuilder(m.getReturnType().getName() + " " + m.getName() + "(");
        for (int i = 0; i < m.getParameterCount(); i++) {
            text.append(i == 0 ? "" : ",").append(m.getParameterTypes()[i].getName());
        }
        text.append(")");
        for (Class<?> thrown : m.getExceptionTypes()) {
            text.append(" ").append(thrown.getSimpleName());
        }
        return text.toString();
    }

    private static void fields() throws Exception {
        int constants = Modifier.PUBLIC | Modifier.STATIC | Modifier.FINAL;
        TreeSet<String> got = new TreeSet<>();
        for (Field f : Sleevehall.class.getDeclaredFields()) {
            if (Modifier.isStatic(f.getModifiers())) {
                Due.is(f.getName() + " is final", true, Modifier.isFinal(f.getModifiers()));
            }
            if (!Modifier.isPrivate(f.getModifiers())) {
                Due.is(f.getName() + " is a constant", constants, f.getModifiers());
                Due.is(f.getName() + " is an int", true, f.getType() == int.class);
                got.add(f.getName() + "=" + f.getInt(null));
            }
        }
        Due.same("the constants", "[GUARD=2, HEAL=1, HIT=0, NONE=-1, STOP=3, TURN=5, TWICE=4]", got.toString());
    }

    private static void constructors() {
        Constructor<?>[] all = Sleevehall.class.getDeclaredConstructors();
        Due.is("how many constructors", 1, all.length);
        Due.is("the constructor is public", Modifier.PUBLIC, all[0].getModifiers());
        Due.is("the constructor's parameters", 0, all[0].getParameterCount());
        Due.is("the class", Modifier.PUBLIC | Modifier.FINAL, Sleevehall.class.getModifiers());
    }

    private static void text() throws Exception {
        String[] lines = Files.readString(Path.of("src/main/java/Sleevehall.java")).split("\n");
        int begun = 0;
        for (int at = 0; at < lines.length; at++) {
            String code = lines[at].strip().startsWith("*") || lines[at].strip().startsWith("/") ? "" : lines[at];
            for (String word : FORBIDDEN) {
                Due.is("line " + (at + 1) + " holds " + word, false, code.contains(word));
            }
            Due.is("line " + (at + 1) + " is plain", true, code.chars().allMatch(c -> c >= 32 && c < 127));
            if (code.endsWith("{") && code.contains(") ") && !code.contains(";")) {
                boolean isHead = !code.strip().matches("(if|for|while|switch|\\}).*");
                begun = isHead ? at : begun;
            }
            if (code.strip().equals("}")) {
                Due.is("line " + (at + 1) + " is near its method's head", true, at - begun <= LONGEST_METHOD);
            }
        }
    }
}
