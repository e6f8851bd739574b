import java.io.IOException;
import java.lang.reflect.Method;
import java.lang.reflect.Modifier;
import java.nio.file.Files;
import java.nio.file.Path;
import java.util.ArrayList;
import java.util.List;

/** README.md says how to use the class and how to run its tests, and what it says is so. */
public final class ReadmeTest {
    private static final Path README = Path.of("README.md");
    private static final Path TESTS = Path.of("src/test/java");
    private static final Check check = new Check("ReadmeTest");

    private ReadmeTest() {
    }

    public static void main(String[] args) throws IOException {
        example();
        exampleIsTheReadmes();
        namesAll();
        check.finish();
    }

    private static void example() {
        // README begins
        RollingSync x = new RollingSync();
        x.write(0, 2, 0, 0x68656C6C6FL, 5);
        x.begin(0, 8, 2, 0);
        x.lose(3);
        while (x.state(0) == 1) {
            x.step(50);
        }
        int size = x.size(1, 2);
        int first = x.at(1, 2, 0);
        long bytes = x.sent(0);
        // README ends
        check.sentence("the example of README.md");
        check.due("size", size, 5);
        check.due("first", first, 0x68);
        // seven NODES, five bytes in BYTES, END
        check.due("bytes", bytes, 7 * 10 + 2 + 5 + 11);
        check.due("seven ASKS, one of them LOST; SUMS and ANSWER", x.sent(1), 8 * 2 + 6 + 1);
        check.states("the example", x, 0, 2, 1, 21, 2, 19, 3, 1, 5, 1);
        String hello = "";
        for (int i = 0; i < 5; i++) {
            hello += (char) x.at(1, 2, i);
        }
        check.alike("the file", hello, "hello");
    }

    /** The lines of the example are those that were run above, but for their comments. */
    private static void exampleIsTheReadmes() throws IOException {
        List<String> told = between(Files.readAllLines(README), "```java", "```");
        List<String> own = Files.readAllLines(TESTS.resolve("ReadmeTest.java"));
        List<String> ran = between(own, "// README begins", "// README ends");
        check.holds("there is an example", told.size() > 3);
        check.alike("the example", String.join("\n", told), String.join("\n", ran));
    }

    private static List<String> between(List<String> lines, String first, String last) {
        List<String> found = new ArrayList<>();
        boolean inside = false;
        for (String line : lines) {
            if (inside && line.strip().equals(last)) {
                return found;
            }
            if (inside) {
                found.add(line.replaceAll("//.*", "").strip());
            }
            inside |= line.strip().equals(first);
        }
        return found;
    }

    private static void namesAll() throws IOException {
        String text = Files.readString(README);
        check.sentence("README.md names each call, each constant and each test");
        for (Method method : RollingSync.class.getDeclaredMethods()) {
            if (Modifier.isPublic(method.getModifiers())) {
                check.holds(method.getName(), text.contains("| `" + method.getName() + "("));
            }
        }
        for (String name : new String[] {"BAD", "NO", "FULL", ".ci/run", "../shared/tests"}) {
            check.holds(name, text.contains(name));
        }
        try (var files = Files.list(TESTS)) {
            for (Path file : files.toList()) {
                String name = file.getFileName().toString().replace(".java", "");
                check.holds(name, !name.endsWith("Test") || text.contains("`" + name + "`"));
            }
        }
    }
}
