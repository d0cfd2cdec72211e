import java.io.IOException;
import java.nio.file.DirectoryStream;
import java.nio.file.Files;
import java.nio.file.Path;
import java.util.ArrayList;
import java.util.Arrays;
import java.util.List;
import java.util.Map;

/**
 * Run by .ci/run behind all tests: every word of the document, from its first line to its last,
 * must be in a sentence that some test has looked at (Check.sentence), and every sentence that a
 * test names must be in the document, under the promise that it names.
 */
final class WholeDocument {
    /** It tells what is free, so no answer can be wrong by it. */
    private static final String FREE = "Not promised";

    private final String section;
    private final String text;
    private final boolean[] covered;

    private WholeDocument(String section, String text) {
        this.section = section;
        this.text = text;
        this.covered = new boolean[text.length()];
    }

    public static void main(String[] args) throws IOException {
        List<String> lookedAt = lookedAt();
        Map<String, String> sections = Document.sections();
        for (String sentence : lookedAt) {
            Check.equal("its section is in the document: " + sentence,
                sections.containsKey(sentence.split("\t")[0]), true);
        }
        for (String section : sections.keySet()) {
            if (!section.equals(FREE)) {
                new WholeDocument(section, sections.get(section)).look(lookedAt);
            }
        }
        Check.end("WholeDocument");
    }

    private static List<String> lookedAt() throws IOException {
        List<String> all = new ArrayList<>();
        try (DirectoryStream<Path> files = Files.newDirectoryStream(Check.LOOKED_AT)) {
            for (Path file : files) {
                all.addAll(Files.readAllLines(file));
            }
        }
        return all;
    }

    private void look(List<String> lookedAt) {
        for (String sentence : lookedAt) {
            String[] parts = sentence.split("\t");
            if (parts[0].equals(section)) {
                Check.equal(section + " says: " + parts[1], cover(parts[1]), true);
            }
        }
        int from = 0;
        for (String line : text.split("\n")) {
            Check.equal(section + ", words without a test: " + line, uncovered(from, line), "");
            from += line.length() + 1;
        }
    }

    private boolean cover(String words) {
        int at = text.indexOf(words);
        boolean found = at >= 0;
        while (at >= 0) {
            Arrays.fill(covered, at, at + words.length(), true);
            at = text.indexOf(words, at + 1);
        }
        return found;
    }

    private String uncovered(int from, String line) {
        StringBuilder left = new StringBuilder();
        for (int i = 0; i < line.length(); i++) {
            left.append(covered[from + i] ? ' ' : line.charAt(i));
        }
        return left.toString().replaceAll("[^A-Za-z0-9]+", " ").strip();
    }
}
