import java.io.IOException;
import java.nio.charset.StandardCharsets;
import java.nio.file.Files;
import java.nio.file.Path;
import java.util.List;
import java.util.regex.Matcher;
import java.util.regex.Pattern;

/** Those rules of ../shared/LANGUAGE.md that a look at the program's lines can tell. */
public final class LanguageTest {
    private static final int LONGEST_METHOD = 60;
    private static final int MOST_PARAMETERS = 7;
    private static final int MOST_CLASSES = 12;
    private static final String THROWN = "(IllegalState|IllegalArgument|IndexOutOfBounds|Arithmetic"
        + "|UnsupportedOperation|NoSuchElement|Runtime)Exception";

    /** The number of a rule, then what no line may have. */
    private static final String[][] RULED_OUT = {
        {"1", "\\bpackage\\b"},
        {"1", "^import (?!java\\.util\\.(Arrays|ArrayList|List|Iterator|NoSuchElementException);)"},
        {"2", "^(?!\\s*(case|default)\\b).*->"},
        {"2", "::"},
        {"3", "\\bObject\\b|\\bvar\\b"},
        {"4", "Exact\\("},
        {"4", "\\bArrays\\.(?!(copyOf|copyOfRange|fill)\\()"},
        {"4", "\\bSystem\\.(?!arraycopy\\()"},
        {"4", "\\b(Thread|Runtime|Class|Character|Boolean|Double|Objects|Collections)\\."},
        {"5", "\\bstatic\\s*\\{"},
        {"5", "^\\s*(private |public )?static (?!final |class |record |enum |interface )[^(]*[=;]"},
        {"6", "\\bthrow\\b(?! new " + THROWN + "\\((\"[^\"]*\")?\\);)"},
        {"6", "\\bcatch\\b(?! \\(" + THROWN + "( \\| " + THROWN + ")* \\w+\\))"},
        {"6", "\\bfinally\\b|\\btry\\s*\\(|\\bsynchronized\\b|\\bassert\\b"},
        {"6", "\\b(equals|hashCode|toString)\\([^)]*\\) \\{"},
        {"10", "\"\\s*\\+|\\+\\s*\""},
        {"13", "\\b(nanoTime|currentTimeMillis|random|Random)\\b"},
    };

    public static void main(String[] args) throws IOException {
        List<String> lines = Files.readAllLines(
            Path.of("src", "main", "java", "DeskPlanner.java"), StandardCharsets.US_ASCII);
        boolean comment = false;
        int methodFrom = 0;
        for (int i = 0; i < lines.size(); i++) {
            String line = lines.get(i);
            String code = line.replaceAll("//.*|/\\*.*?\\*/", "");
            comment = comment || code.contains("/*");
            if (!comment) {
                look(i + 1, code);
            }
            comment = comment && !code.contains("*/");
            if (line.isEmpty()) {
                methodFrom = i + 1;
            }
            Check.equal("rule 11: line " + (i + 1) + " is in a short method",
                i - methodFrom <= LONGEST_METHOD, true);
        }
        String text = String.join("\n", lines).replaceAll("(?s)/\\*.*?\\*/|//[^\n]*", "");
        classes(text);
        parameters(text);
        Check.end("LanguageTest");
    }

    private static void look(int number, String code) {
        for (String[] ruledOut : RULED_OUT) {
            Check.equal("rule " + ruledOut[0] + ": line " + number + " has none of " + ruledOut[1],
                Pattern.compile(ruledOut[1]).matcher(code).find(), false);
        }
    }

    private static void classes(String text) {
        Matcher found = Pattern.compile("\\b(class|record|enum|interface) [A-Z]").matcher(text);
        int count = 0;
        while (found.find()) {
            count++;
        }
        Check.equal("rule 11: some twelve classes at most", count <= MOST_CLASSES, true);
    }

    private static void parameters(String text) {
        Matcher found = Pattern.compile("\\w+ \\w+\\(([^()]*)\\)[^;{]*\\{").matcher(text);
        while (found.find()) {
            Check.equal("rule 11: seven parameters at most: " + found.group(1),
                found.group(1).split(",").length <= MOST_PARAMETERS, true);
        }
    }
}
