import java.io.IOException;
import java.nio.charset.StandardCharsets;
import java.nio.file.Files;
import java.nio.file.Path;
import java.util.List;
import java.util.regex.Pattern;

/** Those rules of ../shared/LANGUAGE.md that a look at the program's lines can tell. */
public final class LanguageTest {
    private static final int LONGEST_METHOD = 60;
    private static final String[] RULED_OUT = {
        "->", "::", "\\bcatch\\b", "\\bfinally\\b", "\\btry\\b", "\\bsynchronized\\b",
        "\\bassert\\b", "\\bstatic\\s*\\{", "\\bwhile\\b", "\"\\s*\\+|\\+\\s*\"", "Exact\\(",
        "\\bpackage\\b", "\\bString\\.format\\b", "\\bObject\\b", "\\bvar\\b",
        "\\bthrow\\b(?! new (IllegalState|IllegalArgument|IndexOutOfBounds)Exception\\(\"[^\"]*\"\\);)",
    };

    public static void main(String[] args) throws IOException {
        List<String> lines = Files.readAllLines(
            Path.of("src", "main", "java", "DeskPlanner.java"), StandardCharsets.US_ASCII);
        boolean comment = false;
        int methodFrom = 0;
        for (int i = 0; i < lines.size(); i++) {
            String line = lines.get(i);
            String code = line.replaceAll("//.*|/\\*.*?\\*/", "");
            comment = comment || code.contains("/*");
            if (!comment) {
                look(i + 1, code);
            }
            comment = comment && !code.contains("*/");
            if (line.isEmpty()) {
                methodFrom = i + 1;
            }
            Check.equal("line " + (i + 1) + " is in a short method",
                i - methodFrom <= LONGEST_METHOD, true);
        }
        Check.end("LanguageTest");
    }

    private static void look(int number, String code) {
        for (String ruledOut : RULED_OUT) {
            Check.equal("line " + number + " has none of " + ruledOut,
                Pattern.compile(ruledOut).matcher(code).find(), false);
        }
        boolean goodImport = !code.startsWith("import") || code.equals("import java.util.Arrays;");
        Check.equal("line " + number + " imports what is listed", goodImport, true);
    }
}
