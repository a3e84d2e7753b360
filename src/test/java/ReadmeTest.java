import java.io.File;
import java.lang.reflect.Method;
import java.lang.reflect.Modifier;
import java.net.URL;
import java.net.URLClassLoader;
import java.nio.file.Files;
import java.nio.file.Path;
import java.util.ArrayList;
import java.util.Collections;
import java.util.List;
import java.util.TreeSet;
import java.util.function.Function;
import java.util.regex.Matcher;
import java.util.regex.Pattern;

/** What README.md says holds: its run of calls, done as written, and its tables of calls, effects and tests. */
public final class ReadmeTest {
    private static final Pattern CALL = Pattern.compile(
        "(int (\\w+) = )?(hall\\.\\w+\\(.*\\));(\\s+// ([^:]+)(: .+)?)?");
    private static final Pattern WORD = Pattern.compile("`([^`]+)`");

    private ReadmeTest() {
    }

    public static void main(String[] args) throws Exception {
        List<String> lines = Files.readAllLines(Path.of("README.md"));
        run(block(lines, "```java"));
        calls(lines);
        tests(lines);
        Due.end();
    }

    /** Does the run as a program of its own would, and compares each answer with the one that stands behind it. */
    private static void run(List<String> lines) throws Exception {
        StringBuilder text = new StringBuilder();
        List<String> calls = new ArrayList<>();
        List<String> answers = new ArrayList<>();
        for (String line : lines) {
            Matcher call = CALL.matcher(line);
            if (!call.matches()) {
                boolean isPlain = line.isEmpty() || line.startsWith("// ") || line.startsWith("Sleevehall hall = ");
                Due.is("README: this line is plain: " + line, true, isPlain);
                text.append(line).append('\n');
            } else if (call.group(5) == null) {
                text.append(line).append('\n');
            } else {
                calls.add(call.group(3));
                answers.add(call.group(5));
                text.append(told(call)).append('\n');
            }
        }
        List<String> got = answersOf(text.toString());
        Due.is("README: how many calls with an answer", answers.size(), got.size());
        for (int at = 0; at < answers.size() && at < got.size(); at++) {
            Due.same("README: " + calls.get(at), answers.get(at), got.get(at));
        }
        for (String call : callsOfFace()) {
            String name = call.substring(0, call.indexOf('('));
            Due.is("README: the run has a call of " + name, true, text.indexOf("hall." + name + "(") >= 0);
        }
    }

    private static String told(Matcher call) {
        if (call.group(2) != null) {
            return call.group(1) + call.group(3) + "; told.add(\"\" + " + call.group(2) + ");";
        }
        return "try { told.add(\"\" + " + call.group(3) + "); }"
            + " catch (RuntimeException e) { told.add(e.getClass().getSimpleName()); }";
    }

    /** Compiles the text in a class of its own, and lets it be done. */
    @SuppressWarnings("unchecked")
    private static List<String> answersOf(String text) throws Exception {
        Path directory = Files.createTempDirectory("readme");
        Path file = directory.resolve("Shown.java");
        Path compiled = directory.resolve("Shown.class");
        Files.writeString(file, "import java.util.List;\n"
            + "public final class Shown implements java.util.function.Function<List<String>, List<String>> {\n"
            + "public List<String> apply(List<String> told) {\n" + text + "return told;\n}\n}\n");
        String path = System.getProperty("java.class.path");
        Process javac = new ProcessBuilder("javac", "-cp", path, "-d", directory.toString(), file.toString())
            .inheritIO().start();
        boolean isCompiled = javac.waitFor() == 0;
        Due.is("README: the run compiles", true, isCompiled);
        try (URLClassLoader loader = new URLClassLoader(new URL[] {directory.toUri().toURL()})) {
            if (!isCompiled) {
                return List.of();
            }
            Object shown = loader.loadClass("Shown").getConstructor().newInstance();
            return ((Function<List<String>, List<String>>) shown).apply(new ArrayList<>());
        } finally {
            Files.deleteIfExists(file);
            Files.deleteIfExists(compiled);
            Files.delete(directory);
        }
    }

    /** The tables of calls name each call once, with as many arguments as it has, and nothing else. */
    private static void calls(List<String> lines) {
        List<String> got = new ArrayList<>();
        for (String call : wordsBehind(lines, "| call |")) {
            got.add(call.replaceAll("\\w+(?=[,)])", "_"));
        }
        Due.is("README: how many calls", callsOfFace().size(), got.size());
        Due.same("README: the calls", callsOfFace().toString(), new TreeSet<>(got).toString());
        Due.same("README: the effects", "[HIT, HEAL, GUARD, STOP, TWICE, TURN]",
            wordsBehind(lines, "| effect |").toString());
    }

    /** The table of tests names each test once, and nothing else. */
    private static void tests(List<String> lines) {
        TreeSet<String> want = new TreeSet<>();
        for (String file : new File("src/test/java").list()) {
            if (file.endsWith("Test.java")) {
                want.add(file.substring(0, file.length() - ".java".length()));
            }
        }
        List<String> got = wordsBehind(lines, "| test |");
        Due.is("README: how many tests", want.size(), got.size());
        Due.same("README: the tests", want.toString(), new TreeSet<>(got).toString());
    }

    /** The calls of the face, with a sign for each argument, as in kind(_, _). */
    private static TreeSet<String> callsOfFace() {
        TreeSet<String> calls = new TreeSet<>();
        for (Method each : Sleevehall.class.getDeclaredMethods()) {
            if (Modifier.isPublic(each.getModifiers())) {
                List<String> arguments = Collections.nCopies(each.getParameterCount(), "_");
                calls.add(each.getName() + "(" + String.join(", ", arguments) + ")");
            }
        }
        return calls;
    }

    /** The words in the first column of the tables with this head. */
    private static List<String> wordsBehind(List<String> lines, String head) {
        List<String> words = new ArrayList<>();
        boolean isIn = false;
        for (String line : lines) {
            isIn = line.startsWith(head) || isIn && line.startsWith("|");
            if (isIn) {
                Matcher word = WORD.matcher(line.substring(0, line.indexOf('|', 1)));
                while (word.find()) {
                    words.add(word.group(1));
                }
            }
        }
        return words;
    }

    private static List<String> block(List<String> lines, String head) {
        int begin = lines.indexOf(head) + 1;
        int end = begin;
        while (end < lines.size() && !lines.get(end).equals("```")) {
            end++;
        }
        return lines.subList(begin, end);
    }
}
