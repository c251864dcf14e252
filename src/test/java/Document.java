import java.io.IOException;
import java.nio.charset.StandardCharsets;
import java.nio.file.Files;
import java.nio.file.Path;
import java.util.LinkedHashMap;
import java.util.LinkedHashSet;
import java.util.Map;
import java.util.Set;

/** The document's sentences by its parts: "Description", and the number of each promise. */
final class Document {
    static final String DESCRIPTION = "Description";
    private static final Path FILE = Path.of("../shared/DOC.md");
    private static final int PROMISES = 53;

    private final Map<String, Set<String>> sentences = new LinkedHashMap<>();

    Document() throws IOException {
        String text = Files.readString(FILE, StandardCharsets.UTF_8).replace("`", "");
        add(DESCRIPTION, between(text, "## Description\n", "\nExamples ("));
        for (int promise = 1; promise <= PROMISES; promise++) {
            String next = promise < PROMISES ? "\n## Promise " + (promise + 1) + ":" : "\n## Not promised";
            String body = between(text, "\n## Promise " + promise + ":", next);
            // Behind the title stands the signature, which FaceTest looks at.
            add(String.valueOf(promise), body.split("\n\n", 3)[2]);
        }
    }

    Map<String, Set<String>> sentences() {
        return sentences;
    }

    /** Whether words stand in one sentence of a part. */
    boolean has(String part, String words) {
        return sentences.get(part).stream().anyMatch(sentence -> sentence.contains(words));
    }

    private void add(String part, String body) {
        Set<String> found = sentences.computeIfAbsent(part, key -> new LinkedHashSet<>());
        for (String line : body.split("\n")) {
            String plain = line.replaceAll("^- ", "").replaceAll("\\s+", " ").trim();
            for (String sentence : plain.split("(?<=\\.) (?=[A-Z])")) {
                if (sentence.contains(" ")) {
                    found.add(sentence);
                }
            }
        }
    }

    private static String between(String text, String from, String to) {
        int start = text.indexOf(from) + from.length();
        return text.substring(start, text.indexOf(to, start));
    }
}
