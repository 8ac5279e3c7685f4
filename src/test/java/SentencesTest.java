import java.lang.reflect.Method;
import java.nio.charset.StandardCharsets;
import java.nio.file.Files;
import java.nio.file.Path;
import java.util.Arrays;
import java.util.LinkedHashMap;
import java.util.Map;
import java.util.Set;
import java.util.TreeSet;

/**
 * Every sentence of the document has a test: the words that the boundary tests bear stand there, and what none of them
 * bears is one of the phrases below, which name no boundary. It runs in the project's directory.
 */
public final class SentencesTest {
    private static final Path DOCUMENT = Path.of("../shared/DOC.md");
    private static final Class<?>[] GROUPS = {
        BoundaryConventionsTest.class, BoundaryTextTest.class, BoundaryChangesTest.class, BoundaryEquationsTest.class,
        BoundaryValuesTest.class, BoundaryImagesTest.class,
    };
    private static final String[] PARTS = {"CONVENTIONS", "TERMS", "VALUES", "CYCLES", "CHANGES"};
    /** Names, headings of lists and repetitions; no two rules of simplify fit the same term. */
    private static final Set<String> WITHOUT_BOUNDARY = Set.of(
        "A judge of endless sequences that are given by equations",
        "what later calls answer is free",
        "The error codes are",
        "In the following, T stands for a term, and d for a digit. Terms are",
        "Some methods are called changes below",
        "The constructor and the methods follow, a promise each: the signature, then what it does",
        "`what`",
        "of several rules, the first one",
        "Returns a number. `what`");

    private SentencesTest() {
    }

    public static void main(String[] args) throws Exception {
        Map<String, String> parts = readDocument();
        Check.due("parts of the document", parts.size(), 1 + PARTS.length + 1 + 22);
        Map<String, boolean[]> said = new LinkedHashMap<>();
        parts.forEach((name, text) -> said.put(name, new boolean[text.length()]));
        for (Class<?> group : GROUPS) {
            for (Method test : Boundaries.testsOf(group)) {
                Says says = test.getAnnotation(Says.class);
                String text = parts.getOrDefault(says.in(), "");
                for (String words : says.words()) {
                    boolean found = mark(text, words, said.get(says.in()));
                    Check.due(test.getName() + ": '" + words + "' stands in " + says.in(), found ? 1 : 0, 1);
                }
            }
        }
        for (Map.Entry<String, String> part : parts.entrySet()) {
            for (String rest : unsaid(part.getValue(), said.get(part.getKey()))) {
                Check.due(part.getKey() + ": '" + rest + "' has a test", WITHOUT_BOUNDARY.contains(rest) ? 1 : 0, 1);
            }
        }
        Check.finish();
    }

    /** The parts that promise something, by their headings, each on one line; signatures and rules are left out. */
    private static Map<String, String> readDocument() throws Exception {
        Map<String, String> parts = new LinkedHashMap<>();
        String name = "";
        for (String line : Files.readString(DOCUMENT, StandardCharsets.UTF_8).split("\n")) {
            if (line.startsWith("# ") || line.startsWith("## ") || line.equals("The constants:")
                || Arrays.asList(PARTS).contains(line)) {
                name = line.replaceAll("^#+ ", "").replaceAll(":.*", "").replace("The constants", "the constants");
            } else if (!line.startsWith("`") && !line.startsWith("----")) {
                parts.merge(name, line.replaceAll("^- ", ""), (before, more) -> before + " " + more);
            }
        }
        parts.replaceAll((key, text) -> text.replaceAll("\\s+", " ").trim());
        parts.keySet().removeAll(Set.of("StreamJudge", "The public face", "Description", "Not promised"));
        return parts;
    }

    /** Marks the words wherever they stand; false if they do not. */
    private static boolean mark(String text, String words, boolean[] said) {
        int from = text.indexOf(words);
        boolean found = from >= 0;
        while (from >= 0) {
            Arrays.fill(said, from, from + words.length(), true);
            from = text.indexOf(words, from + 1);
        }
        return found;
    }

    private static Set<String> unsaid(String text, boolean[] said) {
        Set<String> rests = new TreeSet<>();
        StringBuilder rest = new StringBuilder();
        for (int k = 0; k <= text.length(); k++) {
            if (k < text.length() && !said[k]) {
                rest.append(text.charAt(k));
            } else {
                rests.add(rest.toString().replaceAll("^[\\s.,;:()]+|[\\s.,;:()]+$", ""));
                rest.setLength(0);
            }
        }
        rests.removeIf(left -> left.replace("`", "").isEmpty());
        return rests;
    }
}
