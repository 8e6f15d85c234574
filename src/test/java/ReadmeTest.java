import java.io.IOException;
import java.lang.reflect.Method;
import java.lang.reflect.Modifier;
import java.nio.file.DirectoryStream;
import java.nio.file.Files;
import java.nio.file.Path;

/** README.md tells how to use the class as it is, and every test that there is. */
public final class ReadmeTest {
    private static final Check CHECK = new Check();
    private static final Path TESTS = Path.of("src/test/java");

    public static void main(String[] args) throws IOException {
        String readme = Files.readString(Path.of("README.md"));
        example();
        sameExample(readme);
        calls(readme);
        tests(readme);
        CHECK.done();
    }

    private static void holds(String what, boolean so) {
        CHECK.due(what, so ? 1 : 0, 1);
    }

    private static void due(long got, long want) {
        CHECK.due("the example of README.md", got, want);
    }

    /** The lines of README.md, the answers told behind them asked for. */
    private static void example() {
        WatchServer x = new WatchServer();
        int node = x.node(2);
        due(node, 0);
        int s = x.session(100);
        due(s, 0);
        due(x.activate(s), 1);
        int sub = x.subscribe(s, 2, 3, 10, 0);
        due(sub, 0);
        int item = x.item(s, sub, node, 1, 8, true, 2, 0);
        due(item, 0);
        due(x.publish(s, -1, 0), 0);
        due(x.write(s, node, 7), 1);
        due(x.tick(2), 1);
        int m = x.mail(s, 0);
        due(m, 0);
        due(x.message(m, 2), 2);
        due(x.entry(m, 0, 0), 0);
        due(x.entry(m, 1, 0), 7);
        due(x.publish(s, sub, x.message(m, 1)), 0);
        due(x.acknowledged(), 1);
        due(x.close(s), 1);
        due(x.read(s, node), -2);
    }

    /** A line "int a = x.b();  // 7: .." is asked here by "due(a, 7);", one "x.b();  // 7: .." by "due(x.b(), 7);". */
    private static void sameExample(String readme) throws IOException {
        String code = Files.readString(TESTS.resolve("ReadmeTest.java"));
        int asked = 0;
        for (String line : between(readme, "```java\n", "```").split("\n")) {
            String[] parts = line.split(" +// ");
            String call = parts[0];
            if (call.equals("WatchServer x = new WatchServer();")) {
                continue;
            }
            String name = call.startsWith("int ") ? call.split(" ")[1] : call.replace(";", "");
            String answer = parts.length > 1 ? parts[1].split(":")[0] : "none told";
            holds("asked as README.md has it: " + line, code.contains("  due(" + name + ", " + answer + ");\n")
                && (!call.startsWith("int ") || code.contains("  " + call + "\n")));
            asked++;
        }
        CHECK.due("calls of the example", asked, 16);
    }

    private static String between(String text, String from, String to) {
        int begin = text.indexOf(from) + from.length();
        return text.substring(begin, text.indexOf(to, begin));
    }

    private static void calls(String readme) {
        for (Method method : WatchServer.class.getDeclaredMethods()) {
            if (Modifier.isPublic(method.getModifiers())) {
                holds("README.md tells " + method.getName(), readme.contains("`" + method.getName() + "("));
            }
        }
    }

    private static void tests(String readme) throws IOException {
        try (DirectoryStream<Path> files = Files.newDirectoryStream(TESTS, "*Test.java")) {
            for (Path file : files) {
                String name = file.getFileName().toString().replace(".java", "");
                holds("README.md tells " + name, readme.contains("| `" + name + "` |"));
            }
        }
    }
}
