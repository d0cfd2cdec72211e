import java.util.Arrays;

/**
 * All promises at once: long runs of mixed calls, each answered by the program and by the model.
 * The runs are the same each time: their numbers come from a row that is worked out from a seed.
 */
public final class ModelTest {
    private static final int RUNS = 120;
    private static final int CALLS = 400;
    private static final String[] BUILDING = {
        "setWall", "addZone", "setDesks", "addTeam", "setPresent", "setWish", "setTie"
    };
    private static final String[] PLACING = {
        "place", "place", "place", "placeByWishes", "placeBest", "search", "search", "search",
        "remember", "recall"
    };
    private static final String[] ASKING = {
        "zones", "teams", "need", "share", "zoneOf", "teamIn", "free", "distance", "wishCost",
        "cost", "leastWishCost", "circles", "moves"
    };
    private static final int[] ODD = {
        -2, -1, 5, 6, 7, 8, 9, 10, 40, 41, 60, 61, 99, 100, Integer.MIN_VALUE, Integer.MAX_VALUE
    };

    private final int run;
    private final DeskPlanner planner = new DeskPlanner();
    private final PlannerModel model = new PlannerModel();
    private long row;

    private ModelTest(int run) {
        this.run = run;
        this.row = 7_919L * run + 17;
    }

    public static void main(String[] args) {
        for (int run = 0; run < RUNS; run++) {
            new ModelTest(run).runAll();
        }
        Check.end("ModelTest");
    }

    private void runAll() {
        if (run % 10 != 0) {
            furnish();
        }
        for (int i = 0; i < CALLS; i++) {
            int kind = below(20);
            String[] calls = kind < 4 ? BUILDING : kind < 11 ? PLACING : ASKING;
            mixedCall(calls[below(calls.length)]);
        }
        askAll();
    }

    private int below(int bound) {
        row = row * 6_364_136_223_846_793_005L + 1_442_695_040_888_963_407L;
        return (int) ((row >>> 33) % bound);
    }

    /** Within the bound as a rule, now and then something odd. */
    private int mostly(int bound) {
        return below(25) == 0 ? ODD[below(ODD.length)] : below(bound);
    }

    private void furnish() {
        int walls = below(24);
        int zones = 2 + below(6);
        int teams = 1 + below(zones);
        int greatestWish = run % 3 == 0 ? 3 : 99;
        for (int i = 0; i < walls; i++) {
            call("setWall", below(8), below(8), 1);
        }
        for (int i = 0; i < 3 * zones && i < 3 * 7; i++) {
            if (planner.zones() < zones) {
                call("addZone", below(8), below(8), 3 + below(4));
            }
        }
        for (int team = 0; team < teams; team++) {
            call("addTeam");
            call("setPresent", team, below(5), below(5));
            for (int zone = 0; zone < zones; zone++) {
                call("setWish", team, zone, below(greatestWish + 1));
            }
            for (int other = 0; other < team; other++) {
                call("setTie", team, other, below(run % 4 == 0 ? 2 : 10));
            }
        }
        call("placeByWishes");
    }

    private void mixedCall(String name) {
        switch (name) {
            case "setWall": call(name, mostly(8), mostly(8), below(2)); break;
            case "addZone": call(name, mostly(8), mostly(8), mostly(9)); break;
            case "setDesks": call(name, mostly(7), mostly(9)); break;
            case "setPresent": call(name, mostly(7), mostly(5), mostly(6)); break;
            case "setWish": call(name, mostly(7), mostly(7), mostly(100)); break;
            case "setTie": call(name, mostly(7), mostly(7), mostly(10)); break;
            case "place": call(name, mostly(7), mostly(8) - 1); break;
            case "search": call(name, mostly(3) == 0 ? mostly(41) : 1 + below(6), mostly(6)); break;
            case "free": call(name, mostly(7), mostly(5)); break;
            case "distance": call(name, mostly(7), mostly(7)); break;
            case "need": case "share": case "zoneOf": case "teamIn": call(name, mostly(7)); break;
            default: call(name); break;
        }
    }

    private void askAll() {
        for (int i = 0; i < 7; i++) {
            call("need", i);
            call("share", i);
            call("zoneOf", i);
            call("teamIn", i);
            call("distance", i, (i + 1 + below(6)) % 7);
        }
        call("cost");
        call("moves");
    }

    private void call(String name, int... numbers) {
        Object due = model.answer(name, numbers);
        Object got = PlannerCalls.answer(planner, name, numbers);
        Check.equal("run " + run + " " + name + Arrays.toString(numbers), got, due);
    }
}
