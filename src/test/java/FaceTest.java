import java.lang.reflect.Constructor;
import java.lang.reflect.Field;
import java.lang.reflect.Method;
import java.lang.reflect.Modifier;
import java.util.Arrays;
import java.util.Set;
import java.util.TreeSet;

/** The public face: every call as the document declares it, and nothing else to be seen. */
public final class FaceTest {
    private static final String B = " throws IndexOutOfBoundsException";
    private static final String A = " throws IllegalArgumentException";
    private static final String S = " throws IllegalStateException";
    private static final String AND_A = " IllegalArgumentException";
    private static final String AND_S = " IllegalStateException";

    private static final String[] CALLS = {
        "boolean setWall(int int boolean)" + B + AND_S,
        "int addZone(int int int)" + B + AND_A + AND_S,
        "int setDesks(int int)" + B + AND_A + AND_S,
        "int addTeam()" + S,
        "int setPresent(int int int)" + B + AND_A + AND_S,
        "int setWish(int int int)" + B + AND_A,
        "int setTie(int int int)" + B + AND_A,
        "int place(int int)" + B + AND_S,
        "int placeByWishes()" + S,
        "int placeBest()" + S,
        "int search(int int)" + A + AND_S,
        "int remember()",
        "int recall()" + S,
        "int zones()",
        "int teams()",
        "int need(int)" + B,
        "int share(int)" + B,
        "int zoneOf(int)" + B,
        "int teamIn(int)" + B,
        "int free(int int)" + B,
        "int distance(int int)" + B,
        "int wishCost()",
        "int cost()",
        "int leastWishCost()",
        "int circles()",
        "int moves()",
    };

    public static void main(String[] args) {
        Check.equal("public and final", DeskPlanner.class.getModifiers(),
            Modifier.PUBLIC | Modifier.FINAL);
        Constructor<?>[] constructors = DeskPlanner.class.getDeclaredConstructors();
        Check.equal("constructors", constructors.length, 1);
        Check.equal("its modifiers", constructors[0].getModifiers(), Modifier.PUBLIC);
        Check.equal("its parameters", constructors[0].getParameterCount(), 0);
        methods();
        for (Field field : DeskPlanner.class.getDeclaredFields()) {
            Check.equal("private " + field, Modifier.isPrivate(field.getModifiers()), true);
        }
        for (Class<?> inside : DeskPlanner.class.getDeclaredClasses()) {
            Check.equal("not public " + inside, Modifier.isPublic(inside.getModifiers()), false);
            Check.equal("static " + inside, Modifier.isStatic(inside.getModifiers()), true);
        }
        Check.end("FaceTest");
    }

    private static void methods() {
        Set<String> face = new TreeSet<>();
        Set<String> names = new TreeSet<>();
        for (Method method : DeskPlanner.class.getDeclaredMethods()) {
            if (!Modifier.isPrivate(method.getModifiers())) {
                Check.equal("public " + method, method.getModifiers(), Modifier.PUBLIC);
                face.add(asText(method));
                names.add(method.getName());
            }
        }
        for (Method method : DeskPlanner.class.getDeclaredMethods()) {
            if (Modifier.isPrivate(method.getModifiers())) {
                Check.equal("a name of its own: " + method, names.contains(method.getName()), false);
            }
        }
        Check.equal("the calls", face, new TreeSet<>(Arrays.asList(CALLS)));
    }

    private static String asText(Method method) {
        StringBuilder text = new StringBuilder();
        text.append(method.getReturnType().getSimpleName()).append(' ').append(method.getName());
        text.append('(').append(names(method.getParameterTypes())).append(')');
        if (method.getExceptionTypes().length > 0) {
            text.append(" throws ").append(names(method.getExceptionTypes()));
        }
        return text.toString();
    }

    private static String names(Class<?>[] types) {
        StringBuilder text = new StringBuilder();
        for (Class<?> type : types) {
            text.append(text.length() == 0 ? "" : " ").append(type.getSimpleName());
        }
        return text.toString();
    }
}
