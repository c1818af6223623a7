import java.io.IOException;
import java.lang.reflect.Method;
import java.lang.reflect.Modifier;
import java.nio.file.Files;
import java.nio.file.Path;
import java.util.List;
import java.util.stream.Collectors;
import java.util.stream.Stream;

/** README.md as it stands: its example answers what it says, and it names every call and every test. */
public final class ReadmeTest extends Checks {
    private static final Path TESTS = Path.of("src/test/java");
    private static String readme = "";

    public static void main(String[] args) throws IOException {
        readme = Files.readString(Path.of("README.md"));
        example();
        everyCall();
        everyTest();
        end();
    }

    private static void has(String words) {
        due("README.md has \"" + words + "\"", readme.contains(words), true);
    }

    private static void example() {
        sentence("the example of README.md");
        SharedPage page = new SharedPage();
        int a = page.insert(0, 0, 0, 'a');
        has("int a = page.insert(0, 0, 0, 'a');   // text 0, site 0, place 0: message 0");
        due("a", a, 0);
        int b = page.insert(0, 1, 0, 'b');
        has("int b = page.insert(0, 1, 0, 'b');   // site 1 writes at the same time: message 1");
        due("b", b, 1);
        has("page.tell(0, 1, a);                  // site 1 is told message 0: 1 was done");
        due("tell", page.tell(0, 1, a), 1);
        has("page.share(0, 1, 0, true);           // site 0 is told all that is done at site 1: 1 was new");
        due("share", page.share(0, 1, 0, true), 1);
        has("page.same(0, 0, 1);                  // true");
        due("same", page.same(0, 0, 1), true);
        has("page.write(0, 0);                    // 2 letters are out");
        due("write", page.write(0, 0), 2);
        has("page.out(0);                         // 'a'");
        due("out", page.out(0), 'a');
        has("page.orders(0, 0);                   // 2 orders are free, ..");
        due("orders", page.orders(0, 0), 2);
        has("page.number(0, 0);                   // .. and this one is the first, 0");
        due("number", page.number(0, 0), 0);
    }

    private static void everyCall() {
        sentence("the calls that README.md names");
        for (Method method : SharedPage.class.getDeclaredMethods()) {
            if (Modifier.isPublic(method.getModifiers())) {
                has("| `" + method.getName() + "(");
            }
        }
    }

    private static void everyTest() throws IOException {
        sentence("the tests that README.md names");
        List<String> names;
        try (Stream<Path> files = Files.list(TESTS)) {
            names = files.map(file -> file.getFileName().toString().replace(".java", "")).collect(Collectors.toList());
        }
        due("there are tests", names.isEmpty(), false);
        for (String name : names) {
            has("`" + name + "`");
        }
        has("    .ci/run\n");
    }
}
