import java.io.ByteArrayOutputStream;
import java.io.IOException;
import java.io.PrintStream;
import java.nio.charset.StandardCharsets;
import java.nio.file.Files;
import java.nio.file.Path;
import java.util.List;
import java.util.stream.Collectors;
import java.util.stream.Stream;

/** README.md shows the example as it stands and what it prints, names every call of the face, and every test. */
public final class ReadmeTest {
    private static final Path TESTS = Path.of("src/test/java");
    private static final Bench BENCH = new Bench();

    public static void main(String[] args) throws IOException {
        String readme = read(Path.of("README.md"));
        BENCH.same("the example", block(readme, "java"), read(TESTS.resolve("Example.java")));
        BENCH.same("what it prints", block(readme, "text"), printed());
        for (var method : DrillPlanner.class.getDeclaredMethods()) {
            if ((method.getModifiers() & 1) != 0) {
                names(readme, method.getName());
            }
        }
        for (String test : tests()) {
            names(readme, test);
        }
        BENCH.close("ReadmeTest");
    }

    private static void names(String readme, String word) {
        BENCH.same("README.md names " + word, readme.contains("`" + word + "`"), true);
    }

    private static String block(String readme, String language) {
        String[] parts = readme.split("```" + language + "\n", 2);
        return parts.length < 2 ? "" : parts[1].substring(0, Math.max(0, parts[1].indexOf("```")));
    }

    private static String printed() {
        PrintStream before = System.out;
        ByteArrayOutputStream bytes = new ByteArrayOutputStream();
        System.setOut(new PrintStream(bytes, true, StandardCharsets.UTF_8));
        Example.main(new String[0]);
        System.setOut(before);
        return bytes.toString(StandardCharsets.UTF_8).replace("\r\n", "\n");
    }

    private static List<String> tests() throws IOException {
        try (Stream<Path> files = Files.list(TESTS)) {
            return files.map(file -> file.getFileName().toString()).filter(name -> name.endsWith("Test.java"))
                    .map(name -> name.substring(0, name.length() - ".java".length())).collect(Collectors.toList());
        }
    }

    private static String read(Path file) throws IOException {
        return Files.readString(file, StandardCharsets.UTF_8);
    }
}
