import java.io.IOException;
import java.nio.file.Files;
import java.nio.file.Path;
import java.util.LinkedHashMap;
import java.util.Map;

/** The text of ../shared/DOC.md by its sections: "What it is", "Terms", "Promise 1", and so on. */
final class Document {
    private Document() {
    }

    /** Without the signs of its layout: fences, backquotes, and the dashes ahead of arguments. */
    static Map<String, String> sections() throws IOException {
        Map<String, String> sections = new LinkedHashMap<>();
        String section = "";
        for (String line : Files.readAllLines(Path.of("..", "shared", "DOC.md"))) {
            if (line.startsWith("#")) {
                section = line.replaceFirst("#+ ", "").replaceFirst("(Promise \\d+):.*", "$1");
            } else if (!line.isBlank() && !line.startsWith("```")) {
                String words = line.strip().replaceFirst("^- ", "").replace("`", "");
                sections.merge(section, words, (before, more) -> before + "\n" + more);
            }
        }
        return sections;
    }
}
