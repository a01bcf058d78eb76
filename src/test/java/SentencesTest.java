import java.lang.reflect.Method;
import java.nio.file.Files;
import java.nio.file.Path;
import java.util.ArrayList;
import java.util.List;

/** Every sentence of the document, to its last promise, stands at a test, and what stands there is the document's. */
public final class SentencesTest {
    private static final int PROMISES = 18;

    private SentencesTest() {
    }

    public static void main(String[] args) throws Exception {
        String document = Files.readString(Path.of(args.length > 1 ? args[1] : "../shared/DOC.md"));
        List<Says> said = allSaid();
        for (int promise = 1; promise <= PROMISES; promise++) {
            dueCovered("promise " + promise, promiseText(document, promise), said, promise);
        }
        dueCovered("what it is", flat(between(document, "## What it is", "\n## ")), said, 0);
        dueCovered("the terms", flat(between(document, "## Terms", "\n## Promise 1:").replace("```text", "")
                .replace("```", "")), said, 0);
        dueQuoted(flat(document), said);
        Check.end();
    }

    private static List<Says> allSaid() throws Exception {
        List<Says> said = new ArrayList<>();
        for (String name : Check.testNames()) {
            for (Method m : Class.forName(name).getDeclaredMethods()) {
                if (m.isAnnotationPresent(Says.class)) {
                    said.add(m.getAnnotation(Says.class));
                }
            }
        }
        return said;
    }

    private static String flat(String text) {
        return text.replaceAll("\\s+", " ").trim();
    }

    private static String between(String document, String from, String to) {
        int start = document.indexOf(from);
        Check.dueTrue("the document has " + from.trim(), start >= 0);
        String rest = document.substring(Math.max(0, start) + from.length());
        int end = rest.indexOf(to);
        return end < 0 ? rest : rest.substring(0, end);
    }

    /** The sentences behind the call's own line. */
    private static String promiseText(String document, int promise) {
        String section = between(document, "## Promise " + promise + ":", "\n## ");
        return flat(section.substring(section.indexOf("`:") + 2));
    }

    private static void dueCovered(String what, String text, List<Says> said, int promise) {
        boolean[] covered = new boolean[text.length()];
        for (Says one : said) {
            for (String words : one.promise() == promise ? one.value() : new String[0]) {
                cover(text, words, covered);
            }
        }
        StringBuilder open = new StringBuilder();
        for (int k = 0; k < covered.length; k++) {
            boolean gap = covered[k] || text.charAt(k) == ' ' && open.length() == 0;
            open.append(gap ? "" : text.charAt(k));
        }
        Check.dueText("words of " + what + " without a test", open.toString().trim(), "");
    }

    private static void cover(String text, String words, boolean[] covered) {
        for (int at = text.indexOf(words); at >= 0; at = text.indexOf(words, at + 1)) {
            java.util.Arrays.fill(covered, at, at + words.length(), true);
        }
    }

    private static void dueQuoted(String document, List<Says> said) {
        for (Says one : said) {
            String text = one.promise() == 0 ? document : promiseText(document, one.promise());
            for (String words : one.value()) {
                Check.dueTrue("the document says under promise " + one.promise() + ": " + words, text.contains(words));
            }
        }
    }
}
