import java.io.IOException;
import java.nio.file.Files;
import java.nio.file.Path;
import java.util.ArrayList;
import java.util.LinkedHashSet;
import java.util.List;
import java.util.Map;
import java.util.Set;
import java.util.TreeMap;

/**
 * The sentences of DOC.md by promise, and which of them have a test. What the document says before its first promise
 * stands under number 0. A sentence of a promise that is no text but a line of its own (an argument, an exception)
 * counts as a sentence as well.
 */
final class Sentences {
    private static final int TERMS = 0;

    private static final Map<Integer, Set<String>> document = new TreeMap<>();
    private static final Map<Integer, Set<String>> tested = new TreeMap<>();
    private static final Map<Integer, Set<String>> plain = new TreeMap<>();
    private static String current = "";

    private Sentences() {
    }

    static void read(Path path) throws IOException {
        for (String section : Files.readString(path).split("(?m)^## ")) {
            String title = section.substring(0, section.indexOf('\n'));
            String text = section.substring(section.indexOf('\n')).trim();
            if (title.startsWith("Promise ")) {
                add(Integer.parseInt(title.substring(8, title.indexOf(':'))), text);
            } else if (title.equals("Terms") || title.equals("What it is")) {
                add(TERMS, text);
            }
        }
        Checks.same("DOC.md has the terms and 62 promises", document.size(), 63);
    }

    private static void add(int promise, String text) {
        Set<String> sentences = document.computeIfAbsent(promise, key -> new LinkedHashSet<>());
        for (String paragraph : text.split("\n\\s*\n")) {
            if (paragraph.startsWith("- ")) {
                for (String argument : paragraph.split("\n")) {
                    sentences.add(argument.substring(2));
                }
            } else {
                String joined = paragraph.replace('\n', ' ').replaceFirst("^`[^`]*`: ", "");
                sentences.addAll(List.of(joined.split("(?<=\\.) +(?=[A-Z])")));
            }
        }
    }

    /** Makes the checks of a sentence, which stands in the promise's section or in the terms. */
    static void test(int promise, String sentence, Runnable checks) {
        mark(tested, promise, sentence);
        current = promise + " '" + sentence + "'";
        int before = Checks.made();
        try {
            checks.run();
        } catch (RuntimeException e) {
            Checks.same(label("threw where it should not: " + e + " at " + place(e)), false, true);
        }
        Checks.same(label("has checks"), Checks.made() > before, true);
    }

    private static String place(RuntimeException e) {
        List<String> lines = new ArrayList<>();
        for (StackTraceElement element : e.getStackTrace()) {
            if (lines.size() < 4) {
                lines.add(element.toString());
            }
        }
        return String.join(", ", lines);
    }

    /** Says of sentences that they name no boundary. */
    static void plain(int promise, String... sentences) {
        for (String sentence : sentences) {
            mark(plain, promise, sentence);
        }
    }

    private static void mark(Map<Integer, Set<String>> marks, int promise, String sentence) {
        boolean own = document.get(promise).contains(sentence);
        boolean term = document.get(TERMS).contains(sentence);
        Checks.same(promise + " DOC.md says '" + sentence + "'", own || term, true);
        marks.computeIfAbsent(own ? promise : TERMS, key -> new LinkedHashSet<>()).add(sentence);
    }

    static String label(String what) {
        return current + ": " + what;
    }

    /** Each sentence has a test, or is said to name no boundary, and not both. */
    static void checkThatAllAreThere() {
        for (int promise : document.keySet()) {
            for (String sentence : document.get(promise)) {
                boolean isTested = tested.getOrDefault(promise, Set.of()).contains(sentence);
                boolean isPlain = plain.getOrDefault(promise, Set.of()).contains(sentence);
                Checks.same(promise + " '" + sentence + "' has a test or names no boundary", isTested ^ isPlain, true);
            }
        }
    }
}
