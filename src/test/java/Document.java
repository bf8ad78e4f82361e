import java.io.IOException;
import java.io.UncheckedIOException;
import java.nio.file.Files;
import java.nio.file.Path;
import java.util.ArrayList;
import java.util.LinkedHashMap;
import java.util.List;
import java.util.Map;

/** The document that says what the class must do, as its file has it; .ci/run runs the tests where it is found. */
final class Document {
    private static final Path FILE = Path.of("../shared/DOC.md");

    private Document() { }

    /** The text behind each headline, its lines joined. */
    static Map<String, String> sections() {
        Map<String, String> texts = new LinkedHashMap<>();
        String title = "";
        for (String line : lines(FILE)) {
            if (line.startsWith("## ")) {
                title = line.substring(3);
                texts.put(title, "");
            } else if (!title.isEmpty() && !line.isBlank() && !line.startsWith("```")) {
                texts.merge(title, line.strip(), (before, more) -> before.isEmpty() ? more : before + " " + more);
            }
        }
        return texts;
    }

    /** The lines of the public face, without "public" and the semicolon. */
    static List<String> face() {
        List<String> face = new ArrayList<>();
        for (String line : lines(FILE)) {
            if (line.startsWith("    public ") && line.endsWith(";")) {
                face.add(line.substring("    public ".length(), line.length() - 1));
            }
        }
        return face;
    }

    static List<String> lines(Path file) {
        try {
            return Files.readAllLines(file);
        } catch (IOException e) {
            throw new UncheckedIOException(e);
        }
    }
}
