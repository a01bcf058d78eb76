import java.lang.reflect.Constructor;
import java.lang.reflect.Field;
import java.lang.reflect.Member;
import java.lang.reflect.Method;
import java.lang.reflect.Modifier;
import java.nio.file.Files;
import java.nio.file.Path;
import java.util.Arrays;
import java.util.List;
import java.util.Set;
import java.util.TreeSet;
import java.util.regex.Matcher;
import java.util.regex.Pattern;

/** The public face, and those rules of LANGUAGE.md that can be seen in the class and its source. */
public final class FaceTest {
    private static final List<String> FACE = List.of(
            "int setting()", "int instance(int,int,boolean)", "int cost(int,int,int)", "int costOf(int,int)",
            "int race(int,int,int,int,int,int,int)", "int wants(int)", "int run()", "int left(int)",
            "int raceOf(int)", "int rank(int)", "int dropped(int)", "long odds(int,int,int)",
            "int portfolio(int,int)", "int pick(int)", "int stump(int)", "int heldOut(int)",
            "long mean(int,int,int) throws java.lang.ArithmeticException");

    private static final List<String> RACES =
            List.of("race", "wants", "run", "left", "raceOf", "rank", "dropped", "odds");
    private static final List<String> CHOICES = List.of("portfolio", "pick", "stump", "heldOut", "mean");

    private FaceTest() {
    }

    public static void main(String[] args) throws Exception {
        String text = Files.readString(Path.of(args.length > 0 ? args[0] : "src/main/java/RaceTuning.java"));
        String document = Files.readString(Path.of(args.length > 1 ? args[1] : "../shared/DOC.md"));
        face();
        asWritten(document, text);
        fields();
        methods();
        headings(text);
        source(text);
        room();
        Check.end();
    }

    private static void face() {
        Class<?> c = RaceTuning.class;
        Check.dueTrue("public and final", Modifier.isPublic(c.getModifiers()) && Modifier.isFinal(c.getModifiers()));
        Set<String> open = new TreeSet<>();
        for (Method m : c.getDeclaredMethods()) {
            if (!Modifier.isPrivate(m.getModifiers())) {
                Check.dueTrue(m + " is public", Modifier.isPublic(m.getModifiers()));
                open.add(m.toGenericString().replaceAll("public |final |RaceTuning\\.", ""));
            }
        }
        Check.dueText("methods", open.toString(), new TreeSet<>(FACE).toString());
        Constructor<?>[] made = c.getDeclaredConstructors();
        Check.due("constructors", made.length, 1);
        Check.due("its parameters", made[0].getParameterCount(), 0);
        Check.dueTrue("it is public", Modifier.isPublic(made[0].getModifiers()));
        for (Field f : c.getDeclaredFields()) {
            Check.dueTrue(f + " is private or NOTHING",
                    Modifier.isPrivate(f.getModifiers()) || f.getName().equals("NOTHING"));
        }
    }

    /** The document's face line by line, with the names of the parameters; a method's body begins where its ';' is. */
    private static void asWritten(String document, String text) {
        Matcher lines = Pattern.compile("(?m)^(    public .*);$").matcher(document);
        int count = 0;
        while (lines.find()) {
            String line = lines.group(1);
            String due = "\n" + line + (line.contains("=") ? ";" : " {") + "\n";
            Check.dueTrue("the class has" + line, text.contains(due));
            count++;
        }
        Check.due("the document's lines of a constant, a constructor and calls", count, 2 + FACE.size());
        Check.due("NOTHING", RaceTuning.NOTHING, -9223372036854775808L);
    }

    private static void fields() {
        for (Class<?> c : allClasses()) {
            int own = 0;
            for (Field f : c.getDeclaredFields()) {
                boolean fixed = Modifier.isStatic(f.getModifiers());
                own += fixed ? 0 : 1;
                Check.dueTrue(f + " is final if static", !fixed || Modifier.isFinal(f.getModifiers()));
            }
            Check.dueTrue(c + " has some twenty fields at most", own <= 20);
        }
        Check.dueTrue("some twelve classes at most", allClasses().size() <= 12);
    }

    private static void methods() {
        for (Class<?> c : allClasses()) {
            for (Method m : c.getDeclaredMethods()) {
                Check.dueTrue(m + " has seven parameters at most", m.getParameterCount() <= 7);
                boolean faceName = FACE.stream().anyMatch(line -> line.contains(" " + m.getName() + "("));
                Check.dueTrue(m + " bears no name of the face",
                        !faceName || c == RaceTuning.class && isOpen(m));
            }
            Check.dueTrue(c + " is static if inside", c == RaceTuning.class || Modifier.isStatic(c.getModifiers()));
        }
    }

    private static boolean isOpen(Member m) {
        return Modifier.isPublic(m.getModifiers());
    }

    private static List<Class<?>> allClasses() {
        List<Class<?>> all = new java.util.ArrayList<>();
        all.add(RaceTuning.class);
        all.addAll(Arrays.asList(RaceTuning.class.getDeclaredClasses()));
        return all;
    }

    /** Each heading stands right ahead of its first call, and behind all calls of the one before. */
    @Says(promise = 0, value = {"Ahead of the calls `race`, `wants`, `run`, `left`, `raceOf`, `rank`, `dropped`, `odds` "
        + "the interface says: ---- races.", "Ahead of the calls `portfolio`, `pick`, `stump`, `heldOut`, `mean` "
        + "the interface says: ---- choices."})
    private static void headings(String text) {
        int races = text.indexOf("// ---- races\n");
        int choices = text.indexOf("// ---- choices\n");
        for (String line : FACE) {
            String name = line.substring(line.indexOf(' ') + 1, line.indexOf('('));
            int at = text.indexOf("    public " + line.substring(0, line.indexOf('(') + 1));
            boolean isRace = RACES.contains(name);
            boolean isChoice = CHOICES.contains(name);
            Check.dueTrue(name + " stands in the file", at >= 0);
            Check.dueTrue(name + " and the heading of races", (at > races) == (isRace || isChoice));
            Check.dueTrue(name + " and the heading of choices", (at > choices) == isChoice);
        }
        Check.dueTrue("races stand under a heading of their own", races > 0 && choices > races);
    }

    private static void source(String whole) {
        String text = whole.replaceAll("(?s)/\\*.*?\\*/|//[^\n]*", "");
        String[] never = {
            "->", "::", "\\bcatch\\b", "\\btry\\b", "\\bfinally\\b", "\\bsynchronized\\b", "\\bassert\\b", "Exact\\b",
            "\\bpackage\\b", "\\bvar\\b", "\\bdouble\\b", "\\bfloat\\b", "\\bRandom\\b", "\\bSystem\\b",
            "\\bThread\\b", "\\bprotected\\b", "while \\(true\\)", "for \\(;;\\)", "static \\{"
        };
        for (String word : never) {
            Check.dueTrue("the source is without " + word, !Pattern.compile(word).matcher(text).find());
        }
        Matcher imports = Pattern.compile("import ([^;]*);").matcher(text);
        while (imports.find()) {
            Check.dueText("an import", imports.group(1), "java.util.Arrays");
        }
        Matcher thrown = Pattern.compile("throw new (\\w+)").matcher(text);
        int count = 0;
        while (thrown.find()) {
            count++;
            Check.dueText("what is thrown", thrown.group(1), "ArithmeticException");
        }
        Check.due("throws", count, 1);
    }

    /** The dearest run must stay far below 7.3 million fields and elements; 8 bytes stand for one here. */
    private static void room() {
        com.sun.management.ThreadMXBean bean =
                (com.sun.management.ThreadMXBean) java.lang.management.ManagementFactory.getThreadMXBean();
        oneRun(64);
        long before = bean.getCurrentThreadAllocatedBytes();
        oneRun(512);
        long used = bean.getCurrentThreadAllocatedBytes() - before;
        Check.dueTrue("a run of 512 races takes " + used + " bytes", used < 4000000);
    }

    private static void oneRun(int calls) {
        RaceTuning x = new RaceTuning();
        int made = 0;
        for (; made < 12; made++) {
            x.setting();
        }
        for (; made < 36; made++) {
            x.instance(0, 0, false);
        }
        for (; made < calls; made++) {
            x.race(1, 1, 1, 2, 1, 1000, made);
        }
    }
}
