import java.io.File;
import java.net.URL;
import java.net.URLClassLoader;
import java.nio.file.Files;
import java.nio.file.Path;
import java.util.ArrayList;
import java.util.List;
import java.util.TreeSet;
import java.util.function.Function;
import java.util.regex.Matcher;
import java.util.regex.Pattern;
import javax.tools.JavaCompiler;
import javax.tools.ToolProvider;

/** What README.md says holds: its run of calls, done as written, its tables of calls and of tests, and its commands. */
public final class ReadmeTest {
    private static final Pattern CALL = Pattern.compile("(int (\\w+) = )?(hall\\.\\w+\\(.*\\));(\\s+// ([^:]+)(: .+)?)?");
    private static final Pattern NAME = Pattern.compile("`(\\w+)`");

    private ReadmeTest() {
    }

    public static void main(String[] args) throws Exception {
        List<String> lines = Files.readAllLines(Path.of("README.md"));
        run(block(lines, "```java"));
        calls(lines);
        tests(lines);
        Due.end();
    }

    /** Does the run as a program of its own would, and compares each answer with the one that stands behind it. */
    private static void run(List<String> lines) throws Exception {
        StringBuilder text = new StringBuilder();
        List<String> calls = new ArrayList<>();
        List<String> answers = new ArrayList<>();
        for (String line : lines) {
            Matcher call = CALL.matcher(line);
            if (!call.matches()) {
                boolean isPlain = line.isEmpty() || line.startsWith("// ") || line.startsWith("Sleevehall hall = ");
                Due.is("README: this line is plain: " + line, true, isPlain);
                text.append(line).append('\n');
            } else if (call.group(5) == null) {
                text.append(line).append('\n');
            } else {
                calls.add(call.group(3));
                answers.add(call.group(5));
                text.append(told(call)).append('\n');
            }
        }
        List<String> got = answersOf(text.toString());
        Due.is("README: how many calls with an answer", answers.size(), got.size());
        for (int at = 0; at < answers.size() && at < got.size(); at++) {
            Due.same("README: " + calls.get(at), answers.get(at), got.get(at));
        }
        for (String name : namesOfCalls()) {
            Due.is("README: the run has a call of " + name, true, text.indexOf("hall." + name + "(") >= 0);
        }
    }

    private static String told(Matcher call) {
        if (call.group(2) != null) {
            return call.group(1) + call.group(3) + "; told.add(\"\" + " + call.group(2) + ");";
        }
        return "try { told.add(\"\" + " + call.group(3) + "); }"
            + " catch (RuntimeException e) { told.add(e.getClass().getSimpleName()); }";
    }

    /** Compiles the text in a class of its own, and lets it be done. */
    @SuppressWarnings("unchecked")
    private static List<String> answersOf(String text) throws Exception {
        Path directory = Files.createTempDirectory("readme");
        Path file = directory.resolve("Shown.java");
        Path compiled = directory.resolve("Shown.class");
        Files.writeString(file, "import java.util.List;\n"
            + "public final class Shown implements java.util.function.Function<List<String>, List<String>> {\n"
            + "public List<String> apply(List<String> told) {\n" + text + "return told;\n}\n}\n");
        JavaCompiler compiler = ToolProvider.getSystemJavaCompiler();
        String path = System.getProperty("java.class.path");
        Due.is("README: the run compiles", 0,
            compiler.run(null, null, null, "-cp", path, "-d", directory.toString(), file.toString()));
        try (URLClassLoader loader = new URLClassLoader(new URL[] {directory.toUri().toURL()})) {
            Object shown = loader.loadClass("Shown").getConstructor().newInstance();
            return ((Function<List<String>, List<String>>) shown).apply(new ArrayList<>());
        } finally {
            Files.deleteIfExists(file);
            Files.deleteIfExists(compiled);
            Files.delete(directory);
        }
    }

    /** The table of calls names each call once, and nothing else. */
    private static void calls(List<String> lines) {
        List<String> got = namesBehind(lines, "| calls |");
        Due.is("README: how many calls", namesOfCalls().size(), got.size());
        Due.same("README: the calls", namesOfCalls().toString(), new TreeSet<>(got).toString());
        Due.same("README: the effects", "[HIT, HEAL, GUARD, STOP, TWICE, TURN]",
            namesBehind(lines, "| effect |").toString());
    }

    /** The table of tests names each test once, and nothing else. */
    private static void tests(List<String> lines) {
        TreeSet<String> want = new TreeSet<>();
        for (String file : new File("src/test/java").list()) {
            if (file.endsWith("Test.java")) {
                want.add(file.substring(0, file.length() - ".java".length()));
            }
        }
        List<String> got = namesBehind(lines, "| test |");
        Due.is("README: how many tests", want.size(), got.size());
        Due.same("README: the tests", want.toString(), new TreeSet<>(got).toString());
    }

    private static TreeSet<String> namesOfCalls() {
        TreeSet<String> names = new TreeSet<>();
        for (java.lang.reflect.Method each : Sleevehall.class.getDeclaredMethods()) {
            if (java.lang.reflect.Modifier.isPublic(each.getModifiers())) {
                names.add(each.getName());
            }
        }
        return names;
    }

    /** The names in the first column of the table with this head. */
    private static List<String> namesBehind(List<String> lines, String head) {
        List<String> names = new ArrayList<>();
        boolean isIn = false;
        for (String line : lines) {
            isIn = line.startsWith(head) || isIn && line.startsWith("|");
            if (isIn) {
                Matcher name = NAME.matcher(line.substring(0, line.indexOf('|', 1)));
                while (name.find()) {
                    names.add(name.group(1));
                }
            }
        }
        return names;
    }

    private static List<String> block(List<String> lines, String head) {
        int begin = lines.indexOf(head) + 1;
        int end = begin;
        while (end < lines.size() && !lines.get(end).equals("```")) {
            end++;
        }
        return lines.subList(begin, end);
    }
}
