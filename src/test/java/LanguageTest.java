import java.io.IOException;
import java.lang.reflect.Field;
import java.lang.reflect.Method;
import java.lang.reflect.Modifier;
import java.nio.charset.StandardCharsets;
import java.nio.file.Files;
import java.nio.file.Path;
import java.util.ArrayList;
import java.util.HashMap;
import java.util.HashSet;
import java.util.List;
import java.util.Map;
import java.util.Set;
import java.util.regex.Matcher;
import java.util.regex.Pattern;

/** Those rules of ../shared/LANGUAGE.md that a look at the program's lines and classes can tell. */
public final class LanguageTest {
    private static final int LONGEST_METHOD = 60;
    private static final int MOST_PARAMETERS = 7;
    private static final int MOST_CLASSES = 12;
    private static final int MOST_FIELDS = 20;
    private static final int MOST_CALLS_DEEP = 8;
    private static final String THROWN = "(IllegalState|IllegalArgument|IndexOutOfBounds|Arithmetic"
        + "|UnsupportedOperation|NoSuchElement|Runtime)Exception";

    /** The number of a rule, then what no line may have. */
    private static final String[][] RULED_OUT = {
        {"1", "\\bpackage\\b"},
        {"1", "^import (?!java\\.util\\.(Arrays|ArrayList|List|Iterator|NoSuchElementException);)"},
        {"2", "^(?!\\s*(case|default)\\b).*->"},
        {"2", "::"},
        {"3", "\\bObject\\b|\\bvar\\b"},
        {"4", "Exact\\("},
        {"4", "\\bArrays\\.(?!(copyOf|copyOfRange|fill)\\()"},
        {"4", "\\bSystem\\.(?!arraycopy\\()"},
        {"4", "\\b(Thread|Runtime|Class|Character|Boolean|Double|Objects|Collections)\\."},
        {"5", "\\bstatic\\s*\\{"},
        {"5", "^\\s*(private |public )?static (?!final |class |record |enum |interface )[^(]*[=;]"},
        {"6", "\\bthrow\\b(?! new " + THROWN + "\\((\"[^\"]*\")?\\);)"},
        {"6", "\\bcatch\\b(?! \\(" + THROWN + "( \\| " + THROWN + ")* \\w+\\))"},
        {"6", "\\bfinally\\b|\\btry\\s*\\(|\\bsynchronized\\b|\\bassert\\b"},
        {"6", "\\b(equals|hashCode|toString)\\([^)]*\\) \\{"},
        {"9", "\\bfor \\([^;]*;\\s*;|\\bwhile \\(true\\)"},
        {"10", "\"\\s*\\+|\\+\\s*\""},
        {"13", "\\b(nanoTime|currentTimeMillis|random|Random)\\b"},
    };

    /** The line that a method begins with: its indentation and its name. */
    private static final Pattern METHOD = Pattern.compile(
        "(?m)^( +)(?:private |public |static )*(?:void|int|boolean) (\\w+)\\([^()]*\\)[^;{]*\\{\n");

    /** The types of the library that a field, an argument or an answer may have (rule 3). */
    private static final Set<Class<?>> LIBRARY =
        Set.of(String.class, StringBuilder.class, Integer.class, ArrayList.class, List.class);

    /** The types of constants (rule 5). */
    private static final Set<Class<?>> CONSTANTS = Set.of(int.class, long.class, boolean.class,
        char.class, String.class, int[].class, long[].class, char[].class, byte[].class);

    public static void main(String[] args) throws IOException {
        List<String> lines = Files.readAllLines(
            Path.of("src", "main", "java", "DeskPlanner.java"), StandardCharsets.US_ASCII);
        boolean comment = false;
        int methodFrom = 0;
        for (int i = 0; i < lines.size(); i++) {
            String line = lines.get(i);
            String code = line.replaceAll("//.*|/\\*.*?\\*/", "");
            comment = comment || code.contains("/*");
            if (!comment) {
                look(i + 1, code);
            }
            comment = comment && !code.contains("*/");
            if (line.isEmpty()) {
                methodFrom = i + 1;
            }
            Check.equal("rule 11: line " + (i + 1) + " is in a short method",
                i - methodFrom <= LONGEST_METHOD, true);
        }
        String text = String.join("\n", lines).replaceAll("(?s)/\\*.*?\\*/|//[^\n]*", "");
        classes(text);
        parameters(text);
        depth(text);
        members(DeskPlanner.class);
        for (Class<?> inside : DeskPlanner.class.getDeclaredClasses()) {
            members(inside);
        }
        Check.end("LanguageTest");
    }

    private static void look(int number, String code) {
        for (String[] ruledOut : RULED_OUT) {
            Check.equal("rule " + ruledOut[0] + ": line " + number + " has none of " + ruledOut[1],
                Pattern.compile(ruledOut[1]).matcher(code).find(), false);
        }
    }

    private static void classes(String text) {
        Matcher found = Pattern.compile("\\b(class|record|enum|interface) [A-Z]").matcher(text);
        int count = 0;
        while (found.find()) {
            count++;
        }
        Check.equal("rule 11: some twelve classes at most", count <= MOST_CLASSES, true);
    }

    private static void parameters(String text) {
        Matcher found = Pattern.compile("\\w+ \\w+\\(([^()]*)\\)[^;{]*\\{").matcher(text);
        while (found.find()) {
            Check.equal("rule 11: seven parameters at most: " + found.group(1),
                found.group(1).split(",").length <= MOST_PARAMETERS, true);
        }
    }

    /** The longest row of calls in which no method stands twice; their names are all different. */
    private static void depth(String text) {
        Map<String, String> bodies = new HashMap<>();
        Matcher found = METHOD.matcher(text);
        while (found.find()) {
            int from = found.end() - 1;
            int end = text.indexOf("\n" + found.group(1) + "}", from);
            Check.equal("the depth can be told: one method is named " + found.group(2),
                bodies.put(found.group(2), text.substring(from, end)) == null, true);
        }
        for (String method : bodies.keySet()) {
            int deep = deepest(bodies, method, new HashSet<>());
            Check.equal("rule 11: " + method + " goes eight calls deep at most: " + deep,
                deep <= MOST_CALLS_DEEP, true);
        }
    }

    private static int deepest(Map<String, String> bodies, String method, Set<String> open) {
        int deepest = 0;
        open.add(method);
        Matcher call = Pattern.compile("\\b(\\w+)\\(").matcher(bodies.get(method));
        while (call.find()) {
            if (bodies.containsKey(call.group(1)) && !open.contains(call.group(1))) {
                deepest = Math.max(deepest, deepest(bodies, call.group(1), open));
            }
        }
        open.remove(method);
        return deepest + 1;
    }

    private static void members(Class<?> of) {
        int fields = 0;
        for (Field field : of.getDeclaredFields()) {
            Check.equal("rule 3: the type of " + field, isAllowed(field.getType()), true);
            if (Modifier.isStatic(field.getModifiers())) {
                Check.equal("rule 5: final " + field, Modifier.isFinal(field.getModifiers()), true);
                Check.equal("rule 5: the constant " + field,
                    CONSTANTS.contains(field.getType()) || of.isEnum(), true);
            } else {
                fields++;
            }
        }
        Check.equal("rule 11: some twenty fields at most: " + of, fields <= MOST_FIELDS, true);
        for (Method method : of.getDeclaredMethods()) {
            Check.equal("rule 3: the answer of " + method,
                method.getReturnType() == void.class || isAllowed(method.getReturnType()), true);
            for (Class<?> parameter : method.getParameterTypes()) {
                Check.equal("rule 3: what is given to " + method, isAllowed(parameter), true);
            }
        }
    }

    private static boolean isAllowed(Class<?> type) {
        if (!type.isArray()) {
            return type.isPrimitive() || type.getNestHost() == DeskPlanner.class
                || LIBRARY.contains(type);
        }
        Class<?> part = type.getComponentType();
        boolean isRow = part.isPrimitive() || part.getNestHost() == DeskPlanner.class;
        return isRow || part.isArray() && part.getComponentType().isPrimitive()
            && part.getComponentType() != boolean.class;
    }
}
