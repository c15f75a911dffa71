import java.io.IOException;
import java.lang.reflect.Method;
import java.lang.reflect.Modifier;
import java.nio.file.DirectoryStream;
import java.nio.file.Files;
import java.nio.file.Path;
import java.util.ArrayList;
import java.util.List;

/** README.md: its example answers what it says, and it names all calls and all tests. */
public final class ReadmeTest {
    private static final Path TESTS = Path.of("src/test/java");

    private ReadmeTest() {
    }

    public static void main(String[] args) throws IOException {
        String readme = Files.readString(Path.of("README.md"));
        theExampleIsThisOne(readme);
        theAnswersAreAsTold(readme);
        allCallsAreNamed(readme);
        allTestsAreNamed(readme);
        Check.end();
    }

    /** The page's example, line for line: so it compiles as it stands there. */
    private static int[] example() {
        AnvilHouse forge = new AnvilHouse();
        int melt = forge.melt(0);
        int part = forge.billet(melt, 30);
        int piece = forge.billet(melt, 30);
        int core = forge.heat(part, 1200, 40);
        int other = forge.heat(piece, 1200, 40);
        int layers = forge.layer(part, AnvilHouse.FOLD);
        int moved = forge.blow(part, 0, AnvilHouse.DRAW, 5);
        int load = forge.quench(1 << part | 1 << piece, AnvilHouse.OIL);
        int least = forge.temper(part, 300);
        int tested = forge.test(piece);
        int paper = forge.paper(part, 42);
        int refused = forge.paper(part, 43);
        return new int[] {melt, part, piece, core, other, layers, moved, load, least, tested, paper, refused};
    }

    private static void theExampleIsThisOne(String readme) throws IOException {
        String source = Files.readString(TESTS.resolve("ReadmeTest.java"));
        String body = source.substring(source.indexOf("int[] example() {"));
        body = body.substring(body.indexOf('\n') + 1, body.indexOf("return new int[]"));
        Check.same("the example of README.md", codeOf(body), codeOf(exampleOf(readme)));
    }

    private static void theAnswersAreAsTold(String readme) {
        List<Integer> told = new ArrayList<>();
        for (String line : exampleOf(readme).split("\n")) {
            if (line.contains("// ")) {
                told.add(Integer.parseInt(line.substring(line.indexOf("// ") + 3).strip()));
            }
        }
        int[] got = example();
        Check.due("answers in README.md", got.length, told.size());
        for (int i = 0; i < got.length && i < told.size(); i++) {
            Check.due("the answer " + i + " of README.md's example", told.get(i), got[i]);
        }
    }

    private static String exampleOf(String readme) {
        int start = readme.indexOf("```java\n");
        int end = start < 0 ? -1 : readme.indexOf("```", start + 8);
        Check.holds("README.md has no example", end > 0);
        return end < 0 ? "" : readme.substring(start + 8, end);
    }

    /** Without what is told behind the code, and without the blanks around it. */
    private static String codeOf(String lines) {
        StringBuilder all = new StringBuilder();
        for (String line : lines.split("\n")) {
            int end = line.indexOf("// ");
            String code = (end < 0 ? line : line.substring(0, end)).strip();
            all.append(code).append(code.isEmpty() ? "" : "\n");
        }
        return all.toString();
    }

    private static void allCallsAreNamed(String readme) {
        for (Method method : AnvilHouse.class.getDeclaredMethods()) {
            Check.holds("README.md does not name the call " + method.getName(),
                    !Modifier.isPublic(method.getModifiers()) || readme.contains("`" + method.getName() + "`"));
        }
    }

    private static void allTestsAreNamed(String readme) throws IOException {
        try (DirectoryStream<Path> files = Files.newDirectoryStream(TESTS, "*Test.java")) {
            for (Path file : files) {
                String name = file.getFileName().toString().replace(".java", "");
                Check.holds("README.md does not list " + name, readme.contains("| `" + name + "` |"));
            }
        }
    }
}
