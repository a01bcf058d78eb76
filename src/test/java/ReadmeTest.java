import java.lang.reflect.Method;
import java.lang.reflect.Modifier;
import java.net.URL;
import java.net.URLClassLoader;
import java.nio.file.Files;
import java.nio.file.Path;
import java.util.ArrayList;
import java.util.List;
import java.util.Set;
import java.util.TreeSet;
import java.util.regex.Matcher;
import java.util.regex.Pattern;
import javax.tools.ToolProvider;

/** README.md: its example answers as it says there, and it names every call and every test. */
public final class ReadmeTest {
    /** A call whose answer stands behind it. */
    private static final Pattern ANSWERED = Pattern.compile("(x\\.\\w+\\(.*\\)); +// (-?\\d+)\\b.*");

    private ReadmeTest() {
    }

    public static void main(String[] args) throws Exception {
        String readme = Files.readString(Path.of(args.length > 2 ? args[2] : "README.md"));
        example(between(readme, "```java\n", "```"));
        rowsOfCalls(readme);
        rowsOfTests(readme);
        Check.end();
    }

    @Says(promise = 0, value = "Settings of a program that race over instances: who is worse with exact odds drops "
        + "out, runs are counted; which few together are best, which one to take by what an instance looks like, "
        + "what that is worth on instances that never chose.")
    private static void example(String code) throws Exception {
        for (String call : calls()) {
            Check.dueTrue("README.md's example shows " + call, code.contains("x." + call + "("));
        }
        List<Object[]> answers = answersOf(program(code));
        Check.dueTrue("README.md's example has answers", answers.size() >= 30);
        for (Object[] answer : answers) {
            Check.due("README.md: " + answer[0], (Long) answer[1], (Long) answer[2]);
        }
    }

    private static Set<String> calls() {
        Set<String> names = new TreeSet<>();
        for (Method m : RaceTuning.class.getDeclaredMethods()) {
            if (Modifier.isPublic(m.getModifiers())) {
                names.add(m.getName());
            }
        }
        return names;
    }

    /** The example as a class of its own that keeps each call, its answer, and the answer that README.md tells. */
    private static String program(String code) {
        StringBuilder program = new StringBuilder("public class Example {\n");
        program.append("public static void run(java.util.List<Object[]> answers) {\n");
        for (String line : code.split("\n")) {
            Matcher m = ANSWERED.matcher(line);
            program.append(m.matches()
                    ? "answers.add(new Object[] {\"" + m.group(1) + "\", (long) " + m.group(1) + ", " + m.group(2) + "L});"
                    : line).append('\n');
        }
        return program.append("}\n}\n").toString();
    }

    private static List<Object[]> answersOf(String program) throws Exception {
        Path folder = Files.createTempDirectory("readme");
        Path source = Files.writeString(folder.resolve("Example.java"), program);
        Path compiled = folder.resolve("Example.class");
        List<Object[]> answers = new ArrayList<>();
        int wrong = ToolProvider.getSystemJavaCompiler().run(null, null, null,
                "-cp", System.getProperty("java.class.path"), "-d", folder.toString(), source.toString());
        Check.due("README.md's example does not compile", wrong, 0);
        if (wrong == 0) {
            try (URLClassLoader loader = new URLClassLoader(new URL[] {folder.toUri().toURL()})) {
                loader.loadClass("Example").getMethod("run", List.class).invoke(null, answers);
            }
        }
        Files.deleteIfExists(compiled);
        Files.delete(source);
        Files.delete(folder);
        return answers;
    }

    private static void rowsOfCalls(String readme) {
        for (String call : calls()) {
            Check.dueTrue("README.md has a row for " + call, readme.contains("\n| `" + call + "("));
        }
    }

    private static void rowsOfTests(String readme) throws Exception {
        Set<String> told = new TreeSet<>();
        Matcher rows = Pattern.compile("\n\\| `(\\w+Test)` \\|").matcher(readme);
        while (rows.find()) {
            told.add(rows.group(1));
        }
        Check.dueText("README.md's tests", told.toString(), Check.testNames().toString());
    }

    private static String between(String text, String from, String to) {
        int start = text.indexOf(from);
        int end = start < 0 ? -1 : text.indexOf(to, start + from.length());
        Check.dueTrue("README.md has " + from.trim(), end >= 0);
        return end < 0 ? "" : text.substring(start + from.length(), end);
    }
}
