import java.io.IOException;
import java.lang.reflect.Method;
import java.lang.reflect.Modifier;
import java.nio.file.Files;
import java.nio.file.Path;
import java.util.Arrays;
import java.util.Set;
import java.util.TreeSet;
import java.util.regex.Matcher;
import java.util.regex.Pattern;
import java.util.stream.Collectors;
import java.util.stream.Stream;

/** What README.md says holds: its calls answer as it says, and it names the project's files. */
public final class ReadmeTest {
    private static final Path README = Path.of("README.md");
    private static final Path TESTS = Path.of("src/test/java");
    private static final Path SCRIPT = Path.of(".ci/run");
    private static final Pattern BLOCK = Pattern.compile("(?s)```java\n(.*?)```");
    private static final Pattern NEW_DESK = Pattern.compile("PolyDesk desk = new PolyDesk\\(\\);.*");
    private static final Pattern CALL = Pattern.compile("desk\\.(\\w+)\\(([-0-9, ]*)\\); +// (-?\\d+)(:.*)?");
    private static final Pattern FILE = Pattern.compile("`(src/[\\w/]+\\.java)`");

    private static final Set<String> CALLED = new TreeSet<>();

    public static void main(String[] args) throws IOException {
        String text = Files.readString(README);
        Set<String> there = filesThere();
        Checks.sentence("README.md: what a call answers", () -> runBlocks(text));
        Checks.sentence("README.md: every method is in it", ReadmeTest::everyMethod);
        Checks.sentence("README.md: the files", () -> files(text, there));
        Checks.finish();
    }

    private static Set<String> filesThere() throws IOException {
        Set<String> there = new TreeSet<>();
        there.add("src/main/java/PolyDesk.java");
        try (Stream<Path> tests = Files.list(TESTS)) {
            tests.map(file -> file.getFileName().toString()).filter(name -> name.endsWith(".java"))
                    .forEach(name -> there.add(TESTS + "/" + name));
        }
        return there;
    }

    private static void runBlocks(String text) {
        Matcher block = BLOCK.matcher(text);
        while (block.find()) {
            runBlock(block.group(1).split("\n"));
        }
    }

    private static void runBlock(String[] lines) {
        Checks.hold("no new desk: " + lines[0], NEW_DESK.matcher(lines[0]).matches());
        PolyDesk desk = new PolyDesk();
        for (String line : Arrays.copyOfRange(lines, 1, lines.length)) {
            Matcher call = CALL.matcher(line);
            if (call.matches()) {
                CALLED.add(call.group(1));
                Checks.due(line, answer(desk, call.group(1), call.group(2)), Long.parseLong(call.group(3)));
            } else {
                Checks.hold("no call with its answer: " + line, false);
            }
        }
    }

    private static long answer(PolyDesk desk, String name, String numbers) {
        Object[] given = Arrays.stream(numbers.split(",")).map(n -> Integer.valueOf(n.trim())).toArray();
        Class<?>[] types = new Class<?>[given.length];
        Arrays.fill(types, int.class);
        try {
            return ((Number) PolyDesk.class.getMethod(name, types).invoke(desk, given)).longValue();
        } catch (ReflectiveOperationException e) {
            Checks.hold(name + "(" + numbers + ") can't be called: " + e, false);
            return Long.MIN_VALUE;
        }
    }

    private static void everyMethod() {
        for (Method method : PolyDesk.class.getDeclaredMethods()) {
            boolean told = !Modifier.isPublic(method.getModifiers()) || CALLED.contains(method.getName());
            Checks.hold("no call of " + method.getName(), told);
        }
    }

    private static void files(String text, Set<String> there) {
        Set<String> named = FILE.matcher(text).results().map(found -> found.group(1))
                .collect(Collectors.toCollection(TreeSet::new));
        Checks.hold("it names " + named + ", there are " + there, named.equals(there));
        Checks.hold("it names .ci/run", text.contains("    .ci/run\n") && Files.exists(SCRIPT));
    }
}
