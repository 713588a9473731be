import java.io.ByteArrayOutputStream;
import java.io.IOException;
import java.io.PrintStream;
import java.io.UncheckedIOException;
import java.nio.charset.StandardCharsets;
import java.nio.file.Files;
import java.nio.file.Path;
import java.nio.file.Paths;
import java.util.List;
import java.util.stream.Collectors;
import java.util.stream.Stream;

/** README.md: its example is the one that runs, it prints what stands there, and each test is named. */
public final class ReadmeTest {
    private static final Check check = new Check();
    private static final String PAGE = read("README.md");

    public static void main(String[] args) {
        check.sentence("README.md says how an object is made and used", ReadmeTest::example);
        check.sentence("README.md says what the example prints", ReadmeTest::printed);
        check.sentence("README.md says how the tests are run", ReadmeTest::tests);
        check.end();
    }

    private static String read(String file) {
        try {
            return Files.readString(Paths.get(file));
        } catch (IOException e) {
            throw new UncheckedIOException(e);
        }
    }

    /** What stands in the first block of this kind. */
    private static String block(String kind) {
        String opened = "```" + kind + "\n";
        int start = PAGE.indexOf(opened);
        if (start < 0) {
            return "no " + kind;
        }
        return PAGE.substring(start + opened.length(), PAGE.indexOf("```", start + opened.length()));
    }

    private static void example() {
        check.due("the example", read("src/test/support/Example.java"), () -> block("java"));
    }

    private static void printed() {
        PrintStream before = System.out;
        ByteArrayOutputStream bytes = new ByteArrayOutputStream();
        System.setOut(new PrintStream(bytes, true, StandardCharsets.UTF_8));
        try {
            Example.main(new String[0]);
        } finally {
            System.setOut(before);
        }
        String told = bytes.toString(StandardCharsets.UTF_8).replace(System.lineSeparator(), "\n");
        check.due("what the example prints", told, () -> block("text"));
    }

    private static void tests() {
        List<String> names;
        try (Stream<Path> files = Files.list(Paths.get("src/test/java"))) {
            names = files.map(file -> file.getFileName().toString().replace(".java", "")).collect(Collectors.toList());
        } catch (IOException e) {
            throw new UncheckedIOException(e);
        }
        for (String name : names) {
            check.due(name + " is named", true, () -> PAGE.contains("| `" + name + "` |"));
        }
        check.due(".ci/run", true, () -> PAGE.contains("\n.ci/run\n"));
    }
}
