import java.io.IOException;
import java.lang.reflect.Method;
import java.lang.reflect.Modifier;
import java.nio.file.DirectoryStream;
import java.nio.file.Files;
import java.nio.file.Path;
import java.util.List;

/** README.md, read at the root of the project: its example answers as it says, and it names every call and test. */
public final class ReadmeTest {
    private final Bgpreplay x = new Bgpreplay();
    private final List<String> lines;
    private int next = 0;

    private ReadmeTest(List<String> lines) {
        this.lines = lines;
    }

    public static void main(String[] args) throws IOException {
        String text = Files.readString(Path.of("README.md"));
        new ReadmeTest(text.lines().map(String::strip).filter(line -> line.startsWith("x.")).toList()).example();
        calls(text);
        tests(text);
        Check.end();
    }

    private void example() {
        line("x.hop(1);", () -> x.hop(1));
        line("x.hop(9);", () -> x.hop(9));
        line("x.announce(0, 64, 2);", () -> x.announce(0, 64, 2));
        line("x.lookUp(70);", () -> x.lookUp(70));
        line("x.bestPeer(64, 2);", () -> x.bestPeer(64, 2));
        line("x.allow(64, 2, 4, 9);", () -> x.allow(64, 2, 4, 9));
        line("x.verdict(0, 64, 2);", () -> x.verdict(0, 64, 2));
        line("x.valley(0, 64, 2);", () -> x.valley(0, 64, 2));
        line("x.relate(1, 9, 1);", () -> x.relate(1, 9, 1));
        line("x.valley(0, 64, 2);", () -> x.valley(0, 64, 2));
        line("x.pass(5);", () -> x.pass(5));
        line("x.drop(0);", () -> x.drop(0));
        line("x.lookUp(70);", () -> x.lookUp(70));
        line("x.lookUpAt(4, 70);", () -> x.lookUpAt(4, 70));
        line("x.originAt(4, 70);", () -> x.originAt(4, 70));
        line("x.changes(4, 5);", () -> x.changes(4, 5));
        Check.due("lines of the example", lines.size(), () -> next);
    }

    /** The next line of the example: a call, and a comment that begins with its answer. */
    private void line(String calling, Check.Call call) {
        String line = next < lines.size() ? lines.get(next) : "";
        next++;
        String[] parts = line.split("//", 2);
        Check.same("call " + next + " of the example", calling, parts[0].strip());
        String told = parts.length < 2 ? "" : parts[1].strip();
        Check.due("the answer that the example tells for " + calling, told.split("[ :]", 2)[0], call);
    }

    private static void calls(String text) {
        for (Method m : Bgpreplay.class.getDeclaredMethods()) {
            if (Modifier.isPublic(m.getModifiers())) {
                Check.that("README.md names " + m.getName(), text.contains("`" + m.getName() + "("));
            }
        }
    }

    private static void tests(String text) throws IOException {
        try (DirectoryStream<Path> files = Files.newDirectoryStream(Path.of("src/test/java"), "*Test.java")) {
            for (Path file : files) {
                String name = file.getFileName().toString().replace(".java", "");
                Check.that("README.md names " + name, text.contains("| `" + name + "` |"));
            }
        }
    }
}
