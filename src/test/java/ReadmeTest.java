import java.io.IOException;
import java.nio.charset.StandardCharsets;
import java.nio.file.DirectoryStream;
import java.nio.file.Files;
import java.nio.file.Path;
import java.nio.file.StandardCopyOption;
import java.util.ArrayList;
import java.util.Arrays;
import java.util.List;
import java.util.Set;
import java.util.TreeSet;
import java.util.regex.Matcher;
import java.util.regex.Pattern;

/**
 * README.md does as it says: its commands compile and run its program, which prints the answers
 * that stand behind its calls; the document asks for these answers; its list of tests is whole.
 */
public final class ReadmeTest {
    private static final Path PROGRAM = Path.of("src", "main", "java", "DeskPlanner.java");
    private static final Path TESTS = Path.of("src", "test", "java");

    /** A call of the run with its numbers, and behind it, if it is said, its answer. */
    private static final Pattern CALL =
        Pattern.compile("\\bplanner\\.(\\w+)\\(([^()]*)\\)(?:\\);\\s*// ([^:\n]+))?");
    private static final Pattern SAID = Pattern.compile("\\bsay\\(.*\\);\\s*// ([^:\n]+)");

    public static void main(String[] args) throws IOException, InterruptedException {
        String readme = Files.readString(Path.of("README.md"));
        String example = block(readme, "java");
        itsCommandsAndAnswers(block(readme, "sh"), example);
        itsAnswersAreTheDocuments(example);
        itsCallsAreAll(example);
        itsListOfTests(readme);
        Check.end("ReadmeTest");
    }

    private static String block(String readme, String language) {
        Matcher found = Pattern.compile("```" + language + "\n(.*?)```", Pattern.DOTALL)
            .matcher(readme);
        Check.equal("README.md has a block of " + language, found.find(), true);
        return found.group(1);
    }

    /** They are run where there is nothing but the program and the example. */
    private static void itsCommandsAndAnswers(String commands, String example)
            throws IOException, InterruptedException {
        Check.about("README.md, its commands");
        Path place = Path.of("build", "readme");
        Files.createDirectories(place.resolve(PROGRAM).getParent());
        Files.copy(PROGRAM, place.resolve(PROGRAM), StandardCopyOption.REPLACE_EXISTING);
        Files.writeString(place.resolve("Example.java"), example);
        Process run = new ProcessBuilder("bash", "-c", "set -e\n" + commands)
            .directory(place.toFile()).redirectError(ProcessBuilder.Redirect.INHERIT).start();
        String printed = new String(run.getInputStream().readAllBytes(), StandardCharsets.UTF_8);
        Check.equal("they end with", run.waitFor(), 0);
        Check.equal("they print", printed.lines().toList(), answers(example));
    }

    private static List<String> answers(String example) {
        List<String> answers = new ArrayList<>();
        for (String line : example.split("\n")) {
            Matcher said = SAID.matcher(line);
            if (said.find()) {
                answers.add(said.group(1).strip());
            }
        }
        return answers;
    }

    /** The model answers 1 and 0 for true and false, and a name for what is thrown. */
    private static void itsAnswersAreTheDocuments(String example) {
        Check.about("README.md, its run of calls");
        PlannerModel model = new PlannerModel();
        Matcher call = CALL.matcher(example);
        while (call.find()) {
            int[] numbers = Arrays.stream(call.group(2).split(", ")).filter(n -> !n.isEmpty())
                .mapToInt(ReadmeTest::number).toArray();
            Object due = model.answer(call.group(1), numbers);
            if (call.group(3) == null) {
                Check.equal(call.group() + " is caught", example.substring(call.end())
                    .strip().startsWith(";\n        } catch (" + due + " e)"), true);
            } else {
                Check.equal(call.group(), number(call.group(3).strip()), due);
            }
        }
    }

    private static int number(String word) {
        return word.equals("true") ? 1 : word.equals("false") ? 0 : Integer.parseInt(word);
    }

    private static void itsCallsAreAll(String example) throws IOException {
        Set<String> used = new TreeSet<>();
        Matcher call = CALL.matcher(example);
        while (call.find()) {
            used.add(call.group(1));
        }
        Set<String> face = new TreeSet<>();
        Matcher line = Pattern.compile("public (?:int|boolean) (\\w+)\\(")
            .matcher(Document.sections().get("The public face"));
        while (line.find()) {
            face.add(line.group(1));
        }
        Check.equal("calls that it shows", used, face);
    }

    private static void itsListOfTests(String readme) throws IOException {
        Check.about("README.md, its list of tests");
        Set<String> listed = new TreeSet<>();
        Matcher row = Pattern.compile("(?m)^\\| `(\\w+)` \\|").matcher(readme);
        while (row.find()) {
            listed.add(row.group(1));
        }
        Set<String> there = new TreeSet<>(Set.of("WholeDocument"));
        try (DirectoryStream<Path> files = Files.newDirectoryStream(TESTS, "*Test.java")) {
            for (Path file : files) {
                there.add(file.getFileName().toString().replace(".java", ""));
            }
        }
        Check.equal("tests", listed, there);
    }
}
