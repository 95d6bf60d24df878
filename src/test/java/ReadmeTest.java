import java.io.ByteArrayOutputStream;
import java.io.IOException;
import java.io.PrintStream;
import java.nio.charset.StandardCharsets;
import java.nio.file.Files;
import java.nio.file.Path;
import java.util.TreeSet;
import java.util.regex.Matcher;
import java.util.regex.Pattern;
import java.util.stream.Stream;

/** README.md says of the class and of its tests what is so. */
public final class ReadmeTest {
    private static final Path DOCUMENT = Path.of("../shared/DOC.md");
    private static final Path README = Path.of("README.md");
    private static final Path TESTS = Path.of("src/test/java");
    private static final Path RUN = Path.of(".ci/run");

    private static final Pattern PROMISE = Pattern.compile("^## Promise (\\d+): .*\\n\\n(`.*)$", Pattern.MULTILINE);
    private static final Pattern NAMED_TEST = Pattern.compile("^- `(\\w+Test)`: ", Pattern.MULTILINE);

    private final Check check = new Check();
    private final String readme;

    private ReadmeTest() throws IOException {
        readme = Files.readString(README);
    }

    // Lines of README.md are broken, those of the document are not.
    private static String onOneLine(String text) {
        return text.replaceAll("\\s+", " ").trim();
    }

    private void calls() throws IOException {
        String words = onOneLine(readme);
        Matcher promise = PROMISE.matcher(Files.readString(DOCUMENT));
        int promises = 0;
        while (promise.find()) {
            promises++;
            String said = promise.group(1) + ". " + onOneLine(promise.group(2));
            check.due("README.md says: " + said, words.contains(said), true);
        }
        check.due("promises in the document", promises, 15);
        check.due("README.md says NONE", words.contains("`NONE` is " + ActionDigests.NONE), true);
    }

    private void example() throws IOException {
        String source = Files.readString(TESTS.resolve("Example.java"));
        check.due("README.md shows Example.java", readme.contains("```java\n" + source + "```\n"), true);
        ByteArrayOutputStream printed = new ByteArrayOutputStream();
        PrintStream console = System.out;
        System.setOut(new PrintStream(printed, true, StandardCharsets.UTF_8));
        Example.main(new String[0]);
        System.setOut(console);
        String answers = printed.toString(StandardCharsets.UTF_8).replace(System.lineSeparator(), "\n");
        check.due("README.md shows what it prints", readme.contains("```text\n" + answers + "```\n"), true);
    }

    private void tests() throws IOException {
        TreeSet<String> named = new TreeSet<>();
        Matcher name = NAMED_TEST.matcher(readme);
        while (name.find()) {
            named.add(name.group(1) + ".java");
        }
        TreeSet<String> there = new TreeSet<>();
        try (Stream<Path> files = Files.list(TESTS)) {
            files.map(file -> file.getFileName().toString()).filter(file -> file.endsWith("Test.java")).forEach(there::add);
        }
        check.due("the tests that README.md names", named, there);
        check.due("README.md says how to run them", readme.contains("\n    .ci/run\n"), true);
        check.due(".ci/run can be run", Files.isExecutable(RUN), true);
    }

    public static void main(String[] args) throws IOException {
        ReadmeTest test = new ReadmeTest();
        test.calls();
        test.example();
        test.tests();
        test.check.end();
    }
}
