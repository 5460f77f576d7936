import java.io.IOException;
import java.lang.reflect.Method;
import java.nio.file.Files;
import java.nio.file.Path;
import java.util.List;
import java.util.Set;
import java.util.TreeSet;
import java.util.regex.MatchResult;
import java.util.regex.Matcher;
import java.util.regex.Pattern;
import java.util.stream.Collectors;
import java.util.stream.Stream;

/** What README.md says is so: each call of its examples answers what stands behind it, and its table is whole. */
public final class ReadmeTest {
    private static final Path TESTS = Path.of("src/test/java");
    private static final String NEW = "SlateQuarry quarry = new SlateQuarry();";
    private static final Pattern CALL = Pattern.compile("quarry\\.(\\w+)\\((.*)\\); +// (-?\\d+).*");
    private static final Pattern TELL = Pattern.compile("tell\\(quarry, \"(.*)\"\\); +// (-?\\d+).*");

    private final String here = Files.readString(TESTS.resolve("ReadmeTest.java"));
    private final List<String> readme = Files.readAllLines(Path.of("README.md"));
    private SlateQuarry quarry = null;
    private int examples = 0;

    private ReadmeTest() throws IOException {
    }

    public static void main(String[] args) throws IOException, ReflectiveOperationException {
        ReadmeTest test = new ReadmeTest();
        test.examples();
        test.table();
        everyPromiseHasATest();
        Due.end();
    }

    private void examples() throws ReflectiveOperationException {
        boolean isCode = false;
        for (String line : readme) {
            if (line.startsWith("```")) {
                isCode = line.equals("```java");
            } else if (isCode) {
                example(line);
            }
        }
        Due.holds(examples + " examples", examples > 20);
    }

    private void example(String line) throws ReflectiveOperationException {
        Matcher call = CALL.matcher(line);
        Matcher telling = TELL.matcher(line);
        if (line.equals(NEW)) {
            quarry = new SlateQuarry();
        } else if (call.matches()) {
            answers(line, call(call.group(1), call.group(2)), call.group(3));
        } else if (telling.matches()) {
            answers(line, tell(quarry, telling.group(1)), telling.group(2));
        } else {
            Due.holds("stands in this test: " + line, here.contains("\n    " + line + "\n"));
        }
    }

    private void answers(String line, int got, String want) {
        examples++;
        Due.is(line, got, Integer.parseInt(want));
    }

    private int call(String name, String arguments) throws ReflectiveOperationException {
        String[] texts = arguments.isEmpty() ? new String[0] : arguments.split(", ");
        Method method = Stream.of(SlateQuarry.class.getMethods()).filter(m -> m.getName().equals(name)).findAny()
                .orElseThrow();
        Object[] numbers = new Object[texts.length];
        for (int i = 0; i < texts.length; i++) {
            boolean isLong = texts[i].endsWith("L");
            long number = Long.parseLong(texts[i].replace("L", ""));
            numbers[i] = isLong ? (Object) number : (Object) (int) number;
        }
        return (int) method.invoke(quarry, numbers);
    }

    // As README.md has it, line by line.
    static int tell(SlateQuarry quarry, String text) {
        quarry.end(0);
        for (int i = 0; i < text.length(); i += 8) {
            long eight = 0;
            for (int k = i; k < i + 8; k++) {
                eight = eight << 8 | (k < text.length() ? text.charAt(k) : ' ');
            }
            quarry.feed(eight);
        }
        quarry.end(text.length());
        return quarry.laws();
    }

    /** Every test that there is stands in the table, and no other. */
    private void table() throws IOException {
        Set<String> named = readme.stream().filter(line -> line.startsWith("| `"))
                .flatMap(line -> Pattern.compile("`(\\w+Test)`").matcher(line).results())
                .map((MatchResult test) -> test.group(1)).collect(Collectors.toCollection(TreeSet::new));
        Due.holds("tests of the table, " + named + ", are " + tests(), named.equals(tests()));
    }

    private static Set<String> tests() throws IOException {
        try (Stream<Path> files = Files.list(TESTS)) {
            return files.map(file -> file.getFileName().toString()).filter(name -> name.endsWith("Test.java"))
                    .map(name -> name.replace(".java", "")).collect(Collectors.toCollection(TreeSet::new));
        }
    }

    private static void everyPromiseHasATest() throws IOException {
        Set<String> tests = tests();
        for (int promise = 1; promise <= 24; promise++) {
            String name = String.format("Promise%02d", promise);
            Due.holds(name, tests.stream().anyMatch(test -> test.startsWith(name)));
        }
    }
}
