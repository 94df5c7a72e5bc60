import java.lang.reflect.Method;
import java.nio.file.Files;
import java.nio.file.Path;
import java.util.Arrays;
import java.util.List;
import java.util.regex.Matcher;
import java.util.regex.Pattern;

/** The example of README.md, call by call: each line of it tells its answer, and names every method it can name. */
public final class ReadmeTest {
    private static final Check CHECK = new Check();
    private static final Pattern CALL = Pattern.compile("^office\\.(\\w+)\\((.*)\\); +// (-?\\d+)(:.*)?$");
    private static final Pattern SUM = Pattern.compile("(\\d+) \\* (\\d+) \\+ (\\d+)");

    public static void main(String[] args) throws Exception {
        String text = Files.readString(Path.of("README.md"));
        example(text);
        methods(text);
        tests(text);
        CHECK.finish();
    }

    private static void example(String text) throws ReflectiveOperationException {
        WavePlan office = new WavePlan();
        int calls = 0;
        for (String line : text.split("\n")) {
            Matcher call = CALL.matcher(line);
            if (call.matches()) {
                calls++;
                long due = Long.parseLong(call.group(3));
                CHECK.due("README.md: " + line, answer(office, call.group(1), call.group(2)), due);
            } else {
                CHECK.isTrue("README.md tells the answer: " + line, !line.startsWith("office."));
            }
        }
        CHECK.isTrue("README.md has an example", calls > 0);
    }

    private static long answer(WavePlan office, String name, String told) throws ReflectiveOperationException {
        List<String> words = told.isEmpty() ? List.of() : Arrays.asList(told.split(", "));
        Class<?>[] types = new Class<?>[words.size()];
        Arrays.fill(types, int.class);
        Object[] numbers = words.stream().map(ReadmeTest::number).toArray();
        return ((Number) WavePlan.class.getMethod(name, types).invoke(office, numbers)).longValue();
    }

    private static Integer number(String word) {
        Matcher sum = SUM.matcher(word);
        if (sum.matches()) {
            return Integer.parseInt(sum.group(1)) * Integer.parseInt(sum.group(2)) + Integer.parseInt(sum.group(3));
        }
        return Integer.valueOf(word);
    }

    private static void methods(String text) {
        for (Method m : WavePlan.class.getDeclaredMethods()) {
            if (java.lang.reflect.Modifier.isPublic(m.getModifiers())) {
                CHECK.isTrue("README.md names " + m.getName(), text.contains("`" + m.getName() + "`"));
            }
        }
    }

    private static void tests(String text) throws java.io.IOException {
        CHECK.isTrue("README.md names .ci/run", text.contains("`.ci/run`"));
        try (var files = Files.list(Path.of("src", "test", "java"))) {
            files.map(f -> f.getFileName().toString()).filter(f -> f.endsWith("Test.java"))
                    .forEach(f -> CHECK.isTrue("README.md names " + f, text.contains(f)));
        }
    }
}
