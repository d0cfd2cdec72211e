import java.io.IOException;
import java.lang.reflect.Constructor;
import java.lang.reflect.Field;
import java.lang.reflect.Method;
import java.lang.reflect.Modifier;
import java.nio.file.Files;
import java.nio.file.Path;
import java.util.Arrays;
import java.util.Map;
import java.util.Set;
import java.util.TreeSet;
import java.util.regex.Matcher;
import java.util.regex.Pattern;

/** The public face: every call as the document declares it, and nothing else to be seen. */
public final class FaceTest {
    private static final String B = " throws IndexOutOfBoundsException";
    private static final String A = " throws IllegalArgumentException";
    private static final String S = " throws IllegalStateException";
    private static final String AND_A = " IllegalArgumentException";
    private static final String AND_S = " IllegalStateException";

    private static final String[] CALLS = {
        "boolean setWall(int int boolean)" + B + AND_S,
        "int addZone(int int int)" + B + AND_A + AND_S,
        "int setDesks(int int)" + B + AND_A + AND_S,
        "int addTeam()" + S,
        "int setPresent(int int int)" + B + AND_A + AND_S,
        "int setWish(int int int)" + B + AND_A,
        "int setTie(int int int)" + B + AND_A,
        "int place(int int)" + B + AND_S,
        "int placeByWishes()" + S,
        "int placeBest()" + S,
        "int search(int int)" + A + AND_S,
        "int remember()",
        "int recall()" + S,
        "int zones()",
        "int teams()",
        "int need(int)" + B,
        "int share(int)" + B,
        "int zoneOf(int)" + B,
        "int teamIn(int)" + B,
        "int free(int int)" + B,
        "int distance(int int)" + B,
        "int wishCost()",
        "int cost()",
        "int leastWishCost()",
        "int circles()",
        "int moves()",
    };

    /** The program's text, with one space between any two words and without block comments. */
    private static String program = "";

    public static void main(String[] args) throws IOException {
        program = Files.readString(Path.of("src", "main", "java", "DeskPlanner.java"))
            .replaceAll("(?s)/\\*.*?\\*/", "").replaceAll("\\s+", " ");
        thePublicFace();
        promisesAndTheirCalls();
        termsAheadOfTheCalls();
        whatCanBeSeen();
        Check.end("FaceTest");
    }

    /** Every line of the face stands in the program word for word, the names of numbers too. */
    private static void thePublicFace() throws IOException {
        String face = Document.sections().get("The public face");
        Check.equal("lines of the face", face.split("\n").length, CALLS.length + 3);
        for (String line : face.split("\n")) {
            Check.sentence("The public face", line);
            Check.equal("it is in the program", program.contains(line.replace(";", " {")), true);
        }
    }

    /** The line that a promise begins with is that of the face. */
    private static void promisesAndTheirCalls() throws IOException {
        Map<String, String> sections = Document.sections();
        for (int promise = 1; promise <= CALLS.length + 1; promise++) {
            String text = sections.get("Promise " + promise);
            String call = text.substring(0, text.indexOf(":"));
            Check.sentence("Promise " + promise, call);
            Check.equal("it is in the program", program.contains("public " + call + " {"), true);
        }
    }

    private static void termsAheadOfTheCalls() {
        Check.sentence("Terms",
            "Ahead of the calls setWall, addZone, setDesks, addTeam, setPresent, setWish, setTie the interface says: ---- floor, zones, teams.");
        ahead("floor, zones, teams",
            "setWall, addZone, setDesks, addTeam, setPresent, setWish, setTie");
        Check.sentence("Terms",
            "Ahead of the calls place, placeByWishes, placeBest, search, remember, recall the interface says: ---- placing.");
        ahead("placing", "place, placeByWishes, placeBest, search, remember, recall");
        Check.sentence("Terms",
            "Ahead of the calls zones, teams, need, share, zoneOf, teamIn, free, distance, wishCost, cost, leastWishCost the interface says: ---- what there is; nothing from here on changes anything.");
        ahead("what there is; nothing from here on changes anything", "zones, teams, need, share, "
            + "zoneOf, teamIn, free, distance, wishCost, cost, leastWishCost");
        Check.sentence("Terms", "Ahead of the calls circles, moves the interface says: ---- moves.");
        ahead("moves", "circles, moves");
    }

    /** The public calls between the heading and the next one. */
    private static void ahead(String heading, String due) {
        String[] parts = program.split("// ---- " + heading + " (?=public )");
        Check.equal("the heading stands once", parts.length, 2);
        StringBuilder calls = new StringBuilder();
        Matcher found = Pattern.compile("public (int|boolean) (\\w+)\\(")
            .matcher(parts[1].split("// ----")[0]);
        while (found.find()) {
            calls.append(calls.length() == 0 ? "" : ", ").append(found.group(2));
        }
        Check.equal("the calls behind it", calls.toString(), due);
    }

    private static void whatCanBeSeen() {
        Check.about("Rule 1 of LANGUAGE.md");
        Check.equal("public and final", DeskPlanner.class.getModifiers(),
            Modifier.PUBLIC | Modifier.FINAL);
        Constructor<?>[] constructors = DeskPlanner.class.getDeclaredConstructors();
        Check.equal("constructors", constructors.length, 1);
        Check.equal("its modifiers", constructors[0].getModifiers(), Modifier.PUBLIC);
        Check.equal("its parameters", constructors[0].getParameterCount(), 0);
        methods();
        for (Field field : DeskPlanner.class.getDeclaredFields()) {
            Check.equal("private " + field, Modifier.isPrivate(field.getModifiers()), true);
        }
        for (Class<?> inside : DeskPlanner.class.getDeclaredClasses()) {
            Check.equal("not public " + inside, Modifier.isPublic(inside.getModifiers()), false);
            Check.equal("static " + inside, Modifier.isStatic(inside.getModifiers()), true);
        }
    }

    private static void methods() {
        Set<String> face = new TreeSet<>();
        Set<String> names = new TreeSet<>();
        for (Method method : DeskPlanner.class.getDeclaredMethods()) {
            if (!Modifier.isPrivate(method.getModifiers())) {
                Check.equal("public " + method, method.getModifiers(), Modifier.PUBLIC);
                face.add(asText(method));
                names.add(method.getName());
            }
        }
        Check.equal("the calls", face, new TreeSet<>(Arrays.asList(CALLS)));
        privateNames(DeskPlanner.class, names);
        for (Class<?> inside : DeskPlanner.class.getDeclaredClasses()) {
            privateNames(inside, names);
        }
    }

    private static void privateNames(Class<?> of, Set<String> names) {
        for (Method method : of.getDeclaredMethods()) {
            if (Modifier.isPrivate(method.getModifiers())) {
                Check.equal("a name of its own: " + method, names.contains(method.getName()), false);
            }
        }
    }

    private static String asText(Method method) {
        StringBuilder text = new StringBuilder();
        text.append(method.getReturnType().getSimpleName()).append(' ').append(method.getName());
        text.append('(').append(names(method.getParameterTypes())).append(')');
        if (method.getExceptionTypes().length > 0) {
            text.append(" throws ").append(names(method.getExceptionTypes()));
        }
        return text.toString();
    }

    private static String names(Class<?>[] types) {
        StringBuilder text = new StringBuilder();
        for (Class<?> type : types) {
            text.append(text.length() == 0 ? "" : " ").append(type.getSimpleName());
        }
        return text.toString();
    }
}
