/**
 * All that can be told of an object, as one text. Asking for what has no call of its own (walls,
 * people, wishes, what is remembered) changes it, so the object is used up afterwards. It takes
 * some 350 calls at most, so that the object stays below its 512.
 */
final class Everything {
    private final DeskPlanner planner;
    private final int teams;
    private final int zones;
    private final StringBuilder text = new StringBuilder();

    private Everything(DeskPlanner planner) {
        this.planner = planner;
        this.teams = planner.teams();
        this.zones = planner.zones();
    }

    static String of(DeskPlanner planner) {
        Everything everything = new Everything(planner);
        everything.numbers();
        everything.teams();
        everything.zones();
        everything.laying();
        everything.emptying();
        everything.walls();
        return everything.text.toString();
    }

    private void ask(String call, int... numbers) {
        text.append(call);
        for (int n : numbers) {
            text.append(' ').append(n);
        }
        text.append(" = ").append(PlannerCalls.answer(planner, call, numbers)).append('\n');
    }

    private void numbers() {
        String[] calls = {
            "zones", "teams", "wishCost", "cost", "leastWishCost", "circles", "moves"
        };
        for (String call : calls) {
            ask(call);
        }
    }

    private void teams() {
        for (int team = 0; team < teams; team++) {
            ask("need", team);
            ask("share", team);
            ask("zoneOf", team);
        }
    }

    private void zones() {
        for (int zone = 0; zone < zones; zone++) {
            ask("teamIn", zone);
            for (int day = 0; day < 5; day++) {
                ask("free", zone, day);
            }
            for (int other = 0; other < zones; other++) {
                ask("distance", zone, other);
            }
        }
    }

    /** What a search makes of it, then what is remembered. */
    private void laying() {
        ask("search", 2, 1);
        text.append(Offices.placement(planner)).append('\n');
        ask("recall");
        text.append(Offices.placement(planner)).append('\n');
    }

    private void emptying() {
        for (int team = 0; team < teams; team++) {
            planner.place(team, -1);
            for (int day = 0; day < 5; day++) {
                ask("setPresent", team, day, 0);
            }
            for (int zone = 0; zone < zones; zone++) {
                ask("setWish", team, zone, 0);
            }
            for (int other = 0; other < team; other++) {
                ask("setTie", team, other, 0);
            }
        }
        for (int zone = 0; zone < zones; zone++) {
            ask("setDesks", zone, 1);
        }
    }

    private void walls() {
        for (int column = 0; column < 8; column++) {
            for (int row = 0; row < 8; row++) {
                ask("setWall", column, row, 0);
            }
        }
    }
}
