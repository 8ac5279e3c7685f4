import java.lang.reflect.Method;
import java.nio.charset.StandardCharsets;
import java.nio.file.Files;
import java.nio.file.Path;
import java.util.Arrays;
import java.util.regex.Matcher;
import java.util.regex.Pattern;

/** README.md tells the truth of the class; it runs in the project's directory. */
public final class ReadmeTest {
    private static final Path README = Path.of("README.md");
    private static final Pattern WRITTEN = Pattern.compile("\"([^\"]*)\"\\.toCharArray\\(\\)");
    private static final Pattern CALL = Pattern.compile("x\\.(\\w+)\\(([^)]*)\\);(.*)");
    private static final Pattern ANSWER = Pattern.compile("\\s*// (-?\\d+)(:.*)?");
    private static final Pattern CONSTANT = Pattern.compile("`([A-Z]+)` \\((-\\d+)\\)");

    private ReadmeTest() {
    }

    public static void main(String[] args) throws Exception {
        String page = Files.readString(README, StandardCharsets.UTF_8);
        testNames(page);
        testConstants(page);
        testExample(page);
        testTestsAreTold(page);
        Check.finish();
    }

    private static void testNames(String page) {
        for (Method method : StreamJudge.class.getMethods()) {
            if (method.getDeclaringClass() == StreamJudge.class) {
                boolean named = page.contains("`" + method.getName() + "(");
                Check.due("README.md names " + method.getName(), named ? 1 : 0, 1);
            }
        }
        Check.due("README.md tells how to run the tests", page.contains("\n    .ci/run\n") ? 1 : 0, 1);
    }

    private static void testConstants(String page) throws Exception {
        Matcher constant = CONSTANT.matcher(page);
        int found = 0;
        while (constant.find()) {
            found++;
            int told = Integer.parseInt(constant.group(2));
            Check.due(constant.group(1), StreamJudge.class.getField(constant.group(1)).getInt(null), told);
        }
        Check.due("constants that README.md tells", found, 4);
    }

    /** Does what the example does, line by line; what is no call, the text or the frame of the loop is refused. */
    private static void testExample(String page) throws Exception {
        int from = page.indexOf("```java\n") + "```java\n".length();
        String example = page.substring(from, page.indexOf("```", from));
        StreamJudge x = new StreamJudge();
        int answered = 0;
        for (String line : example.split("\n")) {
            Matcher written = WRITTEN.matcher(line);
            Matcher call = CALL.matcher(line);
            if (written.find()) {
                Check.text(x, written.group(1));
            } else if (call.matches()) {
                Matcher answer = ANSWER.matcher(call.group(3));
                boolean hasAnswer = answer.matches();
                Check.due("'" + line + "' tells its answer", hasAnswer ? 1 : 0, 1);
                if (hasAnswer) {
                    Check.due(line, ask(x, call.group(1), call.group(2)), Integer.parseInt(answer.group(1)));
                    answered++;
                }
            } else {
                boolean frame = line.equals("StreamJudge x = new StreamJudge();") || line.equals("}")
                    || line.equals("    x.write(c);");
                Check.due("'" + line + "' is understood", frame ? 1 : 0, 1);
            }
        }
        Check.due("the example asks enough", answered >= 10 ? 1 : 0, 1);
    }

    private static int ask(StreamJudge x, String name, String list) throws Exception {
        Object[] arguments = Arrays.stream(list.split(",")).map(String::trim).filter(word -> !word.isEmpty())
            .map(Integer::valueOf).toArray();
        Class<?>[] types = new Class<?>[arguments.length];
        Arrays.fill(types, int.class);
        return (Integer) StreamJudge.class.getMethod(name, types).invoke(x, arguments);
    }

    private static void testTestsAreTold(String page) throws Exception {
        try (var files = Files.list(Path.of("src/test/java"))) {
            for (Path file : files.filter(Files::isRegularFile).sorted().toList()) {
                String name = file.getFileName().toString().replace(".java", "");
                if (name.startsWith("Boundary")) {
                    name = "Boundary..Test";
                }
                Check.due("README.md tells of " + name, page.contains("`" + name + "`") ? 1 : 0, 1);
            }
        }
    }
}
