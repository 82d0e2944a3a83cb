import java.io.IOException;
import java.lang.reflect.Method;
import java.nio.file.Files;
import java.nio.file.Path;
import java.util.Set;
import java.util.TreeSet;
import java.util.regex.Matcher;
import java.util.regex.Pattern;

/** What README.md says: each answer of its example, every call by its name, every test and how to run them. */
public final class ReadmeTest {
    private static final Checks C = new Checks();
    private static final Pattern FEEDS = Pattern.compile("for \\(char c : \"([^\"]*)\"\\.toCharArray\\(\\)\\) \\{");
    private static final Pattern ANSWERS = Pattern.compile("x\\.(\\w+)\\(([-0-9, ]*)\\);\\s*// (-?[0-9]+)\\b.*");

    public static void main(String[] args) throws IOException, ReflectiveOperationException {
        String readme = Files.readString(Path.of("README.md"));
        example(readme);
        names(readme);
        C.end("ReadmeTest");
    }

    private static Method callNamed(String name) {
        for (Method m : LoveParts.class.getDeclaredMethods()) {
            if (m.getName().equals(name)) {
                return m;
            }
        }
        throw new IllegalArgumentException(name);
    }

    private static long answer(LoveParts x, String name, String numbers) throws ReflectiveOperationException {
        String[] told = numbers.isBlank() ? new String[0] : numbers.split(",");
        Object[] given = new Object[told.length];
        for (int i = 0; i < told.length; i++) {
            given[i] = Integer.parseInt(told[i].strip());
        }
        return ((Number) callNamed(name).invoke(x, given)).longValue();
    }

    /** The example is run line by line; a line 'x.call(..); // answer' must answer so. */
    private static void example(String readme) throws ReflectiveOperationException {
        Matcher block = Pattern.compile("(?s)```java\\n(.*?)```").matcher(readme);
        C.isTrue("an example", block.find());
        LoveParts x = new LoveParts();
        int answers = 0;
        for (String line : block.group(1).split("\n")) {
            Matcher feeds = FEEDS.matcher(line.strip());
            Matcher due = ANSWERS.matcher(line.strip());
            if (feeds.matches()) {
                Checks.tell(x, feeds.group(1));
            } else if (due.matches()) {
                C.due(line.strip(), answer(x, due.group(1), due.group(2)), Long.parseLong(due.group(3)));
                answers++;
            } else {
                C.isTrue("known words: " + line, line.strip().matches("LoveParts x = new LoveParts\\(\\);|x\\.feed\\(c\\);.*|\\}|"));
            }
        }
        C.isTrue("answers in the example: " + answers, answers >= 10);
    }

    private static void names(String readme) throws IOException {
        for (Method m : LoveParts.class.getMethods()) {
            if (m.getDeclaringClass() == LoveParts.class) {
                C.isTrue(m.getName() + " is named", readme.contains("`" + m.getName() + "("));
            }
        }
        Set<String> tests = new TreeSet<>();
        try (var files = Files.list(Path.of("src/test/java"))) {
            files.map(f -> f.getFileName().toString()).filter(f -> f.endsWith("Test.java"))
                .forEach(f -> tests.add(f.replace(".java", "")));
        }
        C.isTrue("tests there", !tests.isEmpty());
        for (String test : tests) {
            C.isTrue(test + " is named", readme.contains("`" + test + "`"));
        }
        C.isTrue("how to run them", readme.contains(".ci/run"));
    }
}
