import java.io.IOException;
import java.lang.reflect.Method;
import java.lang.reflect.Modifier;
import java.nio.file.Files;
import java.nio.file.Path;
import java.util.List;
import java.util.regex.Matcher;
import java.util.regex.Pattern;
import java.util.stream.Stream;

/** Whether what README.md says is so: the answers of its example, each call and each test named. */
public final class ReadmeTest {
    private static final Check check = new Check("ReadmeTest");
    private static final Pattern CALL = Pattern.compile("x\\.(\\w+)\\(([^)]*)\\);\\s*// (-?\\w+): .*");

    public static void main(String[] args) throws Exception {
        String page = Files.readString(Path.of("README.md"));
        example(page);
        everyCallIsNamed(page);
        everyTestIsNamed(page);
        everyTestNamedIsThere(page);
        check.holds("says how to run the tests", page.contains("\n.ci/run\n"));
        check.end();
    }

    private static void example(String page) throws ReflectiveOperationException {
        int from = page.indexOf("```java\n");
        int to = page.indexOf("```", from + 3);
        BoreSpans x = new BoreSpans();
        int calls = 0;
        for (String line : page.substring(from, to).split("\n")) {
            if (line.startsWith("x.")) {
                Matcher call = CALL.matcher(line);
                check.holds(line + " says what it answers", call.matches());
                check.due(line, answer(x, call.group(1), call.group(2)), number(call.group(3)));
                calls++;
            }
        }
        check.holds("the example has many calls", calls > 20);
    }

    private static int answer(BoreSpans x, String name, String arguments) throws ReflectiveOperationException {
        Method method = Stream.of(BoreSpans.class.getMethods()).filter(m -> m.getName().equals(name)).findFirst().orElseThrow();
        Object[] given = arguments.isEmpty() ? new Object[0] : Stream.of(arguments.split(", ")).map(ReadmeTest::value).toArray();
        return (int) method.invoke(x, given);
    }

    private static Object value(String text) {
        return text.equals("true") || text.equals("false") ? (Object) Boolean.valueOf(text) : (Object) Integer.valueOf(text);
    }

    private static int number(String text) throws ReflectiveOperationException {
        return Character.isUpperCase(text.charAt(0)) ? BoreSpans.class.getField(text).getInt(null) : Integer.parseInt(text);
    }

    private static void everyCallIsNamed(String page) {
        for (Method m : BoreSpans.class.getDeclaredMethods()) {
            if (Modifier.isPublic(m.getModifiers())) {
                check.holds("names " + m.getName(), page.contains("`" + m.getName() + "`"));
            }
        }
    }

    private static void everyTestIsNamed(String page) throws IOException {
        List<Path> tests;
        try (Stream<Path> files = Files.list(Path.of("src/test/java"))) {
            tests = files.filter(p -> p.toString().endsWith("Test.java")).sorted().toList();
        }
        for (Path test : tests) {
            String name = test.getFileName().toString().replace(".java", "");
            check.holds("names " + name, page.contains("\n| " + name + " | "));
        }
    }

    private static void everyTestNamedIsThere(String page) {
        Matcher row = Pattern.compile("\n\\| (\\w+Test) \\|").matcher(page);
        while (row.find()) {
            check.holds(row.group(1) + " is there", Files.exists(Path.of("src/test/java", row.group(1) + ".java")));
        }
    }
}
