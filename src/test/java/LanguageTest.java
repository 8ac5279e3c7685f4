import java.lang.reflect.Constructor;
import java.lang.reflect.Field;
import java.lang.reflect.Method;
import java.lang.reflect.Modifier;
import java.nio.charset.StandardCharsets;
import java.nio.file.Files;
import java.nio.file.Path;
import java.util.Arrays;
import java.util.Set;
import java.util.TreeSet;
import java.util.regex.Matcher;
import java.util.regex.Pattern;

/** The document's face, and what can be seen of LANGUAGE.md in the source; it runs in the project's directory. */
public final class LanguageTest {
    private static final Path SOURCE = Path.of("src/main/java/StreamJudge.java");
    private static final String[] FACE = {
        "write(int)", "wipe()", "fault()", "define(int)", "undefine(int)", "setModulus(int)", "insert(int,int)",
        "simplify(int)", "undo()", "told(int)", "listing(int,int)", "uses(int)", "cycle(int)", "value(int,int)",
        "stream(int,int)", "parting(int,int)", "alike(int)", "needs(int,int,int)", "keep(int)", "back(int)",
        "changed(int,int)",
    };
    private static final String[] FORBIDDEN_WORDS = {
        "throw", "throws", "try", "catch", "synchronized", "assert", "volatile", "native", "protected", "Exact",
        "System.out", "System.currentTimeMillis", "System.nanoTime", "Random", "Thread", "hashCode", "->", "::",
    };

    private LanguageTest() {
    }

    public static void main(String[] args) throws Exception {
        testFace();
        testNamesOfPrivateMethods();
        testSource(Files.readString(SOURCE, StandardCharsets.UTF_8));
        Check.finish();
    }

    private static void testFace() {
        Set<String> found = new TreeSet<>();
        for (Method method : StreamJudge.class.getDeclaredMethods()) {
            if (!Modifier.isPrivate(method.getModifiers())) {
                found.add(method.getName() + Arrays.toString(method.getParameterTypes()).replace(" ", "")
                    .replace('[', '(').replace(']', ')'));
                Check.due(method + " answers an int", method.getReturnType() == int.class ? 1 : 0, 1);
                Check.due(method + " is public", Modifier.isPublic(method.getModifiers()) ? 1 : 0, 1);
            }
        }
        Check.due("the public methods", found.toString(), new TreeSet<>(Arrays.asList(FACE)).toString());
        Set<String> fields = new TreeSet<>();
        for (Field field : StreamJudge.class.getDeclaredFields()) {
            if (!Modifier.isPrivate(field.getModifiers())) {
                fields.add(field.getName());
            }
        }
        Check.due("the public constants", fields.toString(), "[BAD, FULL, NONE, STATE]");
        Constructor<?>[] constructors = StreamJudge.class.getDeclaredConstructors();
        Check.due("constructors", constructors.length, 1);
        Check.due("the constructor is public", Modifier.isPublic(constructors[0].getModifiers()) ? 1 : 0, 1);
        Check.due("the class is final", Modifier.isFinal(StreamJudge.class.getModifiers()) ? 1 : 0, 1);
    }

    private static void testNamesOfPrivateMethods() {
        Set<String> publicNames = new TreeSet<>();
        for (String method : FACE) {
            publicNames.add(method.substring(0, method.indexOf('(')));
        }
        Class<?>[] inside = StreamJudge.class.getDeclaredClasses();
        Check.due("not more than twelve classes", inside.length + 1 <= 12 ? 1 : 0, 1);
        for (Class<?> one : inside) {
            Check.due(one + " is static", Modifier.isStatic(one.getModifiers()) ? 1 : 0, 1);
            for (Method method : one.getDeclaredMethods()) {
                Check.due(method + " bears a name of its own", publicNames.contains(method.getName()) ? 1 : 0, 0);
                Check.due(method + " takes at most seven", method.getParameterCount() <= 7 ? 1 : 0, 1);
            }
        }
        for (Method method : StreamJudge.class.getDeclaredMethods()) {
            boolean hidden = Modifier.isPrivate(method.getModifiers());
            Check.due(method + " bears a name of its own", hidden && publicNames.contains(method.getName()) ? 1 : 0, 0);
        }
    }

    private static void testSource(String source) {
        String code = source.replaceAll("(?s)/\\*.*?\\*/", "").replaceAll("//[^\n]*", "");
        for (String word : FORBIDDEN_WORDS) {
            String edge = Character.isLetter(word.charAt(0)) && !word.equals("Exact") ? "\\b" : "";
            Matcher matcher = Pattern.compile(edge + Pattern.quote(word) + edge).matcher(code);
            Check.due("the word " + word + " occurs", matcher.find() ? 1 : 0, 0);
        }
        Matcher imports = Pattern.compile("(?m)^import ([^;]+);").matcher(code);
        while (imports.find()) {
            Check.due("import", imports.group(1), "java.util.Arrays");
        }
        Check.due("no package", code.contains("package ") ? 1 : 0, 0);
        for (String line : source.split("\n")) {
            Check.due("a line of at most 120 signs", line.length() <= 120 ? 1 : 0, 1);
        }
    }
}
