import java.lang.reflect.Method;
import java.lang.reflect.Modifier;
import java.util.Arrays;

/**
 * The sentences of "Terms" and "What it is" that hold for all calls: what throws, which exception
 * comes first, what changes nothing, and how many calls there may be.
 */
public final class CallsBoundsTest {
    private static final String BOUNDS = "IndexOutOfBoundsException";
    private static final String ARGUMENT = "IllegalArgumentException";
    private static final String STATE = "IllegalStateException";

    /** The limits that the document names, one beyond each, and as far beyond as there is. */
    private static final int[] LIMITS = {
        Integer.MIN_VALUE, -2, -1, 0, 1, 3, 4, 5, 7, 8, 60, 61, Integer.MAX_VALUE
    };
    private static final int[] COSTS = {
        Integer.MIN_VALUE, -1, 0, 9, 10, 99, 100, Integer.MAX_VALUE
    };

    /** Makes an office in which any exception may apply; a row is a call and its numbers. */
    private static final String[] OFFICE = {
        "addZone 0 0 5", "addZone 4 0 6", "addZone 7 7 7", "addZone 3 5 60", "setWall 5 5 1",
        "setWall 7 0 1", "addTeam", "addTeam", "addTeam", "addTeam", "setPresent 0 4 7",
        "setPresent 1 0 5", "setPresent 2 3 0", "setWish 0 2 9", "setWish 3 3 99", "setTie 0 1 3",
        "place 0 2", "place 1 0", "remember", "place 1 1", "place 3 3",
    };

    private static final String[] ASKING = {
        "zones", "teams", "need", "share", "zoneOf", "teamIn", "free", "distance", "wishCost",
        "cost", "leastWishCost", "circles", "moves",
    };

    public static void main(String[] args) {
        theOfficeStands();
        termsTheOneThatIsNamedFirst();
        termsEachCallAtItsLimits();
        termsChangesNothing();
        termsNothingFromHereOnChangesAnything();
        whatItIs512Calls();
        whatItIsLaterCalls();
        Check.end("CallsBoundsTest");
    }

    private static void theOfficeStands() {
        DeskPlanner p = new DeskPlanner();
        for (String row : OFFICE) {
            Check.equal("not thrown by " + row, answer(p, row) instanceof Integer, true);
        }
    }

    private static void termsTheOneThatIsNamedFirst() {
        Check.sentence("Terms",
            "If several exceptions apply, the one that is named first in the throws clause is thrown");
        first("addZone 8 0 0", BOUNDS);
        first("addZone 0 -1 61", BOUNDS);
        first("addZone 0 0 0", ARGUMENT);
        first("addZone 5 5 61", ARGUMENT);
        first("addZone 5 5 60", STATE);
        first("setDesks 4 0", BOUNDS);
        first("setDesks 2 0", ARGUMENT);
        first("setDesks 2 6", STATE);
        first("setPresent 4 0 61", BOUNDS);
        first("setPresent 0 5 -1", BOUNDS);
        first("setPresent 0 5 8", BOUNDS);
        first("setPresent 0 0 61", ARGUMENT);
        first("setPresent 0 0 8", STATE);
        first("setWish 4 0 100", BOUNDS);
        first("setWish 0 4 -1", BOUNDS);
        first("setWish 0 0 100", ARGUMENT);
        first("setTie 4 4 0", BOUNDS);
        first("setTie 0 4 10", BOUNDS);
        first("setTie 4 0 -1", BOUNDS);
        first("setTie 0 0 10", ARGUMENT);
        first("setTie 0 0 0", ARGUMENT);
        first("place 4 2", BOUNDS);
        first("place 0 4", BOUNDS);
        first("place 0 1", STATE);
        first("search 0 0", ARGUMENT);
        first("search 1 6", ARGUMENT);
        first("search 1 0", STATE);
    }

    private static void first(String row, String due) {
        Check.equal(row, answer(office(), row), due);
    }

    private static DeskPlanner office() {
        DeskPlanner p = new DeskPlanner();
        for (String row : OFFICE) {
            answer(p, row);
        }
        return p;
    }

    private static PlannerModel model() {
        PlannerModel model = new PlannerModel();
        for (String row : OFFICE) {
            model.answer(name(row), numbers(row));
        }
        return model;
    }

    private static Object answer(DeskPlanner p, String row) {
        return PlannerCalls.answer(p, name(row), numbers(row));
    }

    private static String name(String row) {
        return row.split(" ")[0];
    }

    private static int[] numbers(String row) {
        return Arrays.stream(row.split(" ")).skip(1).mapToInt(Integer::parseInt).toArray();
    }

    /** Whatever is asked for, what comes is what the model answers. */
    private static void termsEachCallAtItsLimits() {
        Check.about("What each number may be, and each exception");
        String[] byOne = {"need", "share", "zoneOf", "teamIn"};
        String[] byTwo = {"setDesks", "place", "search", "free", "distance"};
        for (int one : LIMITS) {
            for (String call : byOne) {
                asTheModel(call, one);
            }
            for (int two : LIMITS) {
                for (String call : byTwo) {
                    asTheModel(call, one, two);
                }
                asTheModel("setWall", one, two, 0);
                asTheModel("setWall", one, two, 1);
                for (int three : LIMITS) {
                    asTheModel("addZone", one, two, three);
                    asTheModel("setPresent", one, two, three);
                }
                for (int cost : COSTS) {
                    asTheModel("setWish", one, two, cost);
                    asTheModel("setTie", one, two, cost);
                }
            }
        }
    }

    private static void asTheModel(String call, int... numbers) {
        DeskPlanner p = office();
        PlannerModel model = model();
        String what = call + Arrays.toString(numbers);
        Check.equal(what, PlannerCalls.answer(p, call, numbers), model.answer(call, numbers));
        String[] then = {"zones", "teams", "cost", "moves"};
        for (String asked : then) {
            Check.equal(what + " and then " + asked, PlannerCalls.answer(p, asked),
                model.answer(asked));
        }
    }

    /** Each of the calls that throw, one after another upon the same object. */
    private static void termsChangesNothing() {
        Check.sentence("Terms", "A call that throws an exception changes nothing");
        String[] rows = {
            "setWall 8 0 1", "setWall 0 8 1", "setWall 0 0 1", "setWall 0 0 0", "addZone 8 0 5",
            "addZone 0 -1 5", "addZone 6 6 0", "addZone 6 6 61", "addZone 5 5 5", "addZone 0 0 9",
            "setDesks 4 9", "setDesks -1 9", "setDesks 0 61", "setDesks 0 0", "setDesks 2 6",
            "setPresent 4 0 2", "setPresent 0 5 2", "setPresent 0 -1 2", "setPresent 0 0 61",
            "setPresent 0 0 -1", "setPresent 0 0 8", "setPresent 1 1 7", "setWish 4 0 1",
            "setWish 0 4 1", "setWish 0 0 100", "setWish 0 0 -1", "setTie 4 0 1", "setTie 0 4 1",
            "setTie 0 1 10", "setTie 0 1 -1", "setTie 0 0 1", "place 4 -1", "place 0 4",
            "place 0 -2", "place 0 1", "place 0 0", "search 0 0", "search 41 0", "search 1 -1",
            "search 1 6", "search 40 5", "need 4", "share 4", "zoneOf 4", "teamIn 4", "free 4 0",
            "free 0 5", "distance 4 0", "distance 0 4",
        };
        DeskPlanner p = office();
        for (String row : rows) {
            Check.equal("thrown by " + row, answer(p, row) instanceof String, true);
        }
        Check.equal("all of it", Everything.of(p), Everything.of(office()));
    }

    private static void termsNothingFromHereOnChangesAnything() {
        Check.sentence("Terms", "what there is; nothing from here on changes anything");
        for (String call : ASKING) {
            DeskPlanner busy = office();
            DeskPlanner full = Offices.full();
            for (int one = 0; one < 4; one++) {
                for (int two = 0; two < 4; two++) {
                    PlannerCalls.answer(busy, call, one, two);
                    PlannerCalls.answer(full, call, one, two);
                }
            }
            Check.equal(call, Everything.of(busy), Everything.of(office()));
            Check.equal(call + " of a full one", Everything.of(full), Everything.of(Offices.full()));
        }
    }

    private static void whatItIs512Calls() {
        Check.sentence("What it is",
            "An object is used for at most 512 calls after it has been made");
        String[] rows = {
            "setWall 1 1 1", "addZone 6 6 6", "addZone 8 8 8", "setDesks 3 60", "addTeam",
            "setPresent 0 4 7", "setWish 3 3 99", "setTie 1 0 3", "place 3 3", "place 4 -1",
            "placeByWishes", "placeBest", "search 40 5", "search 40 0", "remember", "recall",
            "zones", "teams", "need 0", "share 3", "zoneOf 3", "teamIn 2", "free 2 4",
            "distance 0 3", "wishCost", "cost", "leastWishCost", "circles", "moves",
        };
        for (String row : rows) {
            DeskPlanner p = office();
            PlannerModel model = model();
            p.place(2, 0);
            model.answer("place", 2, 0);
            Object due = null;
            for (int i = 0; i < 6; i++) {
                due = model.answer(name(row), numbers(row));
            }
            for (int calls = OFFICE.length + 1; calls < 511; calls++) {
                answer(p, row);
            }
            Check.equal("the 512th call, " + row, answer(p, row), due);
        }
    }

    /** Free is the answer, but no call may throw what the document has not in its throws clause. */
    private static void whatItIsLaterCalls() {
        Check.sentence("What it is", "what later calls answer is free");
        DeskPlanner p = office();
        for (int calls = OFFICE.length; calls < 512; calls++) {
            p.zones();
        }
        for (Method call : DeskPlanner.class.getDeclaredMethods()) {
            if (Modifier.isPublic(call.getModifiers())) {
                for (int one : LIMITS) {
                    for (int two : COSTS) {
                        answersOrThrowsItsOwn(p, call, one, two);
                    }
                }
            }
        }
    }

    private static void answersOrThrowsItsOwn(DeskPlanner p, Method call, int one, int two) {
        Object answer = PlannerCalls.answer(p, call.getName(), one, two, one & 1);
        boolean asDeclared = answer instanceof Integer;
        for (Class<?> exception : call.getExceptionTypes()) {
            asDeclared |= exception.getSimpleName().equals(answer);
        }
        Check.equal(call.getName() + " " + one + " " + two + ": " + answer, asDeclared, true);
    }
}
