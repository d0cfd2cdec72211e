/**
 * The limits of each number that a call takes, a row for each line of the document that names them:
 * every number from the least to the greatest is taken; the ones beside them and the farthest ones
 * are refused by the exception that the document names, and change nothing.
 */
public final class LimitsBoundsTest {
    private static final String BOUNDS = "IndexOutOfBoundsException";
    private static final String ARGUMENT = "IllegalArgumentException";

    public static void main(String[] args) {
        floor();
        teams();
        placing();
        asking();
        Check.end("LimitsBoundsTest");
    }

    private static void floor() {
        Check.sentence("Promise 2", "column: 0 to 7");
        limits(Offices::full, "setWall * 3 1", 0, 7, BOUNDS);
        limits(Offices::full, "setWall * 7 0", 0, 7, BOUNDS);
        Check.sentence("Promise 2", "row: 0 to 7");
        limits(Offices::full, "setWall 7 * 1", 0, 7, BOUNDS);
        limits(Offices::full, "setWall 1 * 0", 0, 7, BOUNDS);
        Check.sentence("Promise 3", "column: 0 to 7");
        limits(LimitsBoundsTest::fewZones, "addZone * 3 5", 0, 7, BOUNDS);
        Check.sentence("Promise 3", "row: 0 to 7");
        limits(LimitsBoundsTest::fewZones, "addZone 7 * 5", 0, 7, BOUNDS);
        Check.sentence("Promise 3", "desks: 1 to 60");
        limits(LimitsBoundsTest::fewZones, "addZone 7 7 *", 1, 60, ARGUMENT);
        Check.sentence("Promise 4", "zone: the zone");
        limits(Offices::full, "setDesks * 5", 0, 6, BOUNDS);
        limits(LimitsBoundsTest::fewZones, "setDesks * 5", 0, 1, BOUNDS);
        Check.sentence("Promise 4", "desks: 1 to 60");
        limits(Offices::full, "setDesks 6 *", 1, 60, ARGUMENT);
    }

    private static void teams() {
        Check.sentence("Promise 6", "team: the team");
        limits(Offices::full, "setPresent * 0 5", 0, 6, BOUNDS);
        limits(LimitsBoundsTest::fewZones, "setPresent * 4 5", 0, 2, BOUNDS);
        Check.sentence("Promise 6", "day: 0 to 4");
        limits(Offices::full, "setPresent 6 * 0", 0, 4, BOUNDS);
        Check.sentence("Promise 6", "people: 0 to 60");
        limits(LimitsBoundsTest::fewZones, "setPresent 2 4 *", 0, 60, ARGUMENT);
        Check.sentence("Promise 7", "team: the team");
        limits(Offices::full, "setWish * 6 5", 0, 6, BOUNDS);
        limits(LimitsBoundsTest::fewZones, "setWish * 0 5", 0, 2, BOUNDS);
        Check.sentence("Promise 7", "zone: the zone");
        limits(Offices::full, "setWish 6 * 5", 0, 6, BOUNDS);
        limits(LimitsBoundsTest::fewZones, "setWish 0 * 5", 0, 1, BOUNDS);
        Check.sentence("Promise 7", "cost: 0 to 99");
        limits(Offices::full, "setWish 6 0 *", 0, 99, ARGUMENT);
        Check.sentence("Promise 8", "team: a team");
        taken(Offices::full, "setTie * 0 5", 1, 6);
        refused(Offices::full, "setTie * 0 5", -1, 7, BOUNDS);
        refused(LimitsBoundsTest::fewZones, "setTie * 0 5", -1, 3, BOUNDS);
        Check.sentence("Promise 8", "other: another one");
        taken(Offices::full, "setTie 6 * 5", 0, 5);
        refused(Offices::full, "setTie 6 * 5", 6, 6, ARGUMENT);
        refused(Offices::full, "setTie 6 * 5", -1, 7, BOUNDS);
        refused(LimitsBoundsTest::fewZones, "setTie 2 * 5", -1, 3, BOUNDS);
        Check.sentence("Promise 8", "tie: 0 to 9");
        limits(Offices::full, "setTie 6 0 *", 0, 9, ARGUMENT);
    }

    private static void placing() {
        Check.sentence("Promise 9", "team: the team");
        limits(Offices::full, "place * -1", 0, 6, BOUNDS);
        limits(LimitsBoundsTest::fewZones, "place * 1", 0, 2, BOUNDS);
        Check.sentence("Promise 9", "zone: the zone; -1 for none");
        limits(LimitsBoundsTest::nobodyPlaced, "place 6 *", -1, 6, BOUNDS);
        limits(LimitsBoundsTest::fewZones, "place 2 *", -1, 1, BOUNDS);
        Check.sentence("Promise 12", "steps: 1 to 40: how many steps are made, at most");
        limits(Offices::full, "search * 5", 1, 40, ARGUMENT);
        limits(DeskPlanner::new, "search * 0", 1, 40, ARGUMENT);
        Check.sentence("Promise 12",
            "rest: 0 to 5: for how many steps teams rest that were changed");
        limits(Offices::full, "search 40 *", 0, 5, ARGUMENT);
        limits(DeskPlanner::new, "search 1 *", 0, 5, ARGUMENT);
    }

    private static void asking() {
        String[] ofTeams = {"Promise 17 need *", "Promise 18 share *", "Promise 19 zoneOf *"};
        for (String row : ofTeams) {
            Check.sentence(row.substring(0, 10), "team: the team");
            limits(Offices::full, row.substring(11), 0, 6, BOUNDS);
            limits(LimitsBoundsTest::fewZones, row.substring(11), 0, 2, BOUNDS);
        }
        Check.sentence("Promise 20", "zone: the zone");
        limits(Offices::full, "teamIn *", 0, 6, BOUNDS);
        limits(LimitsBoundsTest::fewZones, "teamIn *", 0, 1, BOUNDS);
        Check.sentence("Promise 21", "zone: the zone");
        limits(Offices::full, "free * 4", 0, 6, BOUNDS);
        limits(LimitsBoundsTest::fewZones, "free * 0", 0, 1, BOUNDS);
        Check.sentence("Promise 21", "day: 0 to 4");
        limits(Offices::full, "free 6 *", 0, 4, BOUNDS);
        limits(LimitsBoundsTest::fewZones, "free 0 *", 0, 4, BOUNDS);
        Check.sentence("Promise 22", "zone: a zone");
        limits(Offices::full, "distance * 6", 0, 6, BOUNDS);
        limits(LimitsBoundsTest::fewZones, "distance * 1", 0, 1, BOUNDS);
        Check.sentence("Promise 22", "other: another one, or the same");
        limits(Offices::full, "distance 6 *", 0, 6, BOUNDS);
        limits(LimitsBoundsTest::fewZones, "distance 1 *", 0, 1, BOUNDS);
    }

    /** Two zones, and three teams that are in none. */
    private static DeskPlanner fewZones() {
        DeskPlanner p = Offices.withZones(5, 5);
        Offices.addTeams(p, 3);
        return p;
    }

    private static DeskPlanner nobodyPlaced() {
        DeskPlanner p = Offices.full();
        Offices.layAnew(p, -1, -1, -1, -1, -1, -1, -1);
        return p;
    }

    /** The row is a call with its numbers, and * for the one that is looked at. */
    private static void limits(Refused.Opening office, String row, int least, int most,
            String exception) {
        taken(office, row, least, most);
        refused(office, row, least - 1, most + 1, exception);
    }

    private static void taken(Refused.Opening office, String row, int least, int most) {
        for (int n = least; n <= most; n++) {
            Check.equal(row + " takes " + n, answer(office.open(), row, n) instanceof Integer, true);
        }
    }

    private static void refused(Refused.Opening office, String row, int below, int above,
            String exception) {
        int[] numbers = {below, above, Integer.MIN_VALUE, Integer.MAX_VALUE};
        for (int i = 0; i < (below == above ? 1 : 4); i++) {
            DeskPlanner p = office.open();
            String what = row + " refuses " + numbers[i];
            Check.equal(what, answer(p, row, numbers[i]), exception);
            Check.equal(what + ", and it changes nothing", Everything.of(p),
                Everything.of(office.open()));
        }
    }

    private static Object answer(DeskPlanner p, String row, int n) {
        String[] words = row.split(" ");
        int[] numbers = new int[words.length - 1];
        for (int i = 0; i < numbers.length; i++) {
            numbers[i] = words[i + 1].equals("*") ? n : Integer.parseInt(words[i + 1]);
        }
        return PlannerCalls.answer(p, words[0], numbers);
    }
}
