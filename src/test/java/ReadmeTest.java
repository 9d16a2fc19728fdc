import java.io.IOException;
import java.lang.reflect.Method;
import java.nio.file.Files;
import java.nio.file.Path;
import java.util.HashSet;
import java.util.List;
import java.util.Set;
import java.util.regex.Matcher;
import java.util.regex.Pattern;
import java.util.stream.Collectors;
import java.util.stream.Stream;

/** What README.md shows is what the class answers; each call is on that page, and each promise 1 to 26 in some test. */
public final class ReadmeTest {
    private static final Pattern ANSWERED = Pattern.compile("moot\\.(\\w+)\\(([-\\d, ]*)\\); // (-?\\d+)\\b.*");
    private static final Pattern TEXT = Pattern.compile("String text = \"(.*)\";");
    private static final int MOST_CALLS = 512;

    private MudMoot moot;
    private int calls;
    private final Set<String> shown = new HashSet<>();

    public static void main(String[] args) throws Exception {
        List<String> page = Files.readAllLines(Path.of("README.md"));
        ReadmeTest test = new ReadmeTest();
        test.runAll(page);
        test.allCallsAreTold(String.join("\n", page));
        promisesAreNamed();
        Due.end();
    }

    private void runAll(List<String> page) throws Exception {
        boolean code = false;
        for (String line : page) {
            if (line.startsWith("```")) {
                code = line.equals("```java");
            } else if (code) {
                run(line);
            }
        }
        Due.due("README.md: calls of its object, " + MOST_CALLS + " at most", Math.max(calls, MOST_CALLS), MOST_CALLS);
    }

    /** A text is typed where it is told: the loop that follows it on the page says so. */
    private void run(String line) throws Exception {
        Matcher answered = ANSWERED.matcher(line);
        Matcher text = TEXT.matcher(line);
        if (line.equals("MudMoot moot = new MudMoot();")) {
            moot = new MudMoot();
        } else if (text.matches()) {
            Due.tell(moot, text.group(1));
            calls += text.group(1).length();
        } else if (answered.matches()) {
            shown.add(answered.group(1));
            Due.due("README.md: " + line, call(answered.group(1), answered.group(2)), Long.parseLong(answered.group(3)));
            calls++;
        } else {
            boolean loop = line.startsWith("for (") || line.startsWith("    moot.type(text") || line.equals("}");
            Due.due("README.md: a line that is understood (1): " + line, loop ? 1 : 0, 1);
        }
    }

    private long call(String name, String numbers) throws Exception {
        String[] told = numbers.isEmpty() ? new String[0] : numbers.split(", ");
        Object[] arguments = Stream.of(told).map(Integer::valueOf).toArray();
        Class<?>[] types = Stream.of(told).map(n -> int.class).toArray(Class<?>[]::new);
        Method method = MudMoot.class.getMethod(name, types);
        return ((Number) method.invoke(moot, arguments)).longValue();
    }

    private void allCallsAreTold(String page) {
        for (Method m : MudMoot.class.getDeclaredMethods()) {
            if (java.lang.reflect.Modifier.isPublic(m.getModifiers())) {
                Due.due("README.md: an example (1) of " + m.getName(), shown.contains(m.getName()) ? 1 : 0, 1);
                Due.due("README.md: a row (1) of " + m.getName(), page.contains("| `" + m.getName() + "(") ? 1 : 0, 1);
            }
        }
    }

    private static void promisesAreNamed() throws IOException {
        String tests;
        try (Stream<Path> files = Files.list(Path.of("src/test/java"))) {
            tests = files.filter(f -> f.toString().endsWith("EdgeTest.java")).map(ReadmeTest::read)
                .collect(Collectors.joining());
        }
        for (int promise = 1; promise <= 26; promise++) {
            boolean named = Pattern.compile("\"promise " + promise + "\\b").matcher(tests).find();
            Due.due("a test (1) that names promise " + promise, named ? 1 : 0, 1);
        }
    }

    private static String read(Path file) {
        try {
            return Files.readString(file);
        } catch (IOException e) {
            throw new IllegalStateException(file + " can't be read", e);
        }
    }
}
