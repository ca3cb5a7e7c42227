import java.io.IOException;
import java.lang.reflect.Method;
import java.lang.reflect.Modifier;
import java.nio.file.Files;
import java.nio.file.Path;
import java.util.regex.Matcher;
import java.util.regex.Pattern;

/** README.md's example answers what it says, each call is told there, and so is each test. */
public final class ReadmeTest {
    private static final Pattern TYPED = Pattern.compile("for \\(char c : \"([^\"]*)\"");
    private static final Pattern ASKED = Pattern.compile("(?m)^rest\\.(\\w+)\\(([\\d, -]*)\\); +// (-?\\d+)");

    public static void main(String[] args) throws Exception {
        Check check = new Check();
        String readme = Files.readString(Path.of("README.md"));
        example(check, readme);
        for (Method m : TriangleRest.class.getDeclaredMethods()) {
            if (Modifier.isPublic(m.getModifiers())) {
                check.holds("README.md tells of " + m.getName(), readme.contains("`" + m.getName() + "("));
            }
        }
        tests(check, readme);
        check.end();
    }

    private static void example(Check check, String readme) throws ReflectiveOperationException {
        int begin = readme.indexOf("```java");
        int end = readme.indexOf("```", begin + 3);
        check.holds("README.md has an example", begin >= 0 && end > begin);
        String code = begin >= 0 && end > begin ? readme.substring(begin, end) : "";
        Matcher typed = TYPED.matcher(code);
        check.holds("the example types a text", typed.find());
        TriangleRest rest = new TriangleRest();
        Check.type(rest, typed.group(1));
        Matcher asked = ASKED.matcher(code);
        int calls = 0;
        while (asked.find()) {
            calls++;
            check.due("README.md: " + asked.group(1) + "(" + asked.group(2) + ")",
                called(rest, asked.group(1), asked.group(2)), Long.parseLong(asked.group(3)));
        }
        long told = code.lines().filter(line -> line.startsWith("rest.")).count();
        check.due("calls of the example that were made", calls, told);
        check.holds("the example has calls", calls > 0);
    }

    private static long called(TriangleRest rest, String name, String numbers) throws ReflectiveOperationException {
        String[] told = numbers.isEmpty() ? new String[0] : numbers.split(", ");
        Class<?>[] types = new Class<?>[told.length];
        Object[] values = new Object[told.length];
        for (int i = 0; i < told.length; i++) {
            types[i] = int.class;
            values[i] = Integer.valueOf(told[i]);
        }
        return ((Number) TriangleRest.class.getMethod(name, types).invoke(rest, values)).longValue();
    }

    private static void tests(Check check, String readme) throws IOException {
        check.holds("README.md tells how to run the tests", readme.contains(".ci/run"));
        try (var files = Files.list(Path.of("src/test/java"))) {
            for (Path file : files.toList()) {
                String name = file.getFileName().toString().replace(".java", "");
                check.holds("README.md tells of " + name, readme.contains("`" + name + "`"));
            }
        }
    }
}
