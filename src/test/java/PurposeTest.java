/**
 * What the planner and each call is for, a test for each sentence of the document that says so
 * without naming a boundary case.
 */
public final class PurposeTest {
    public static void main(String[] args) {
        whatItIs();
        termsFourWaysOfPlacing();
        termsRememberedAndCounted();
        promise2BuildsOrRemoves();
        promise2WhetherThereIsToBeOne();
        promise3AddsAZone();
        promise4ChangesTheNumberOfDesks();
        promise6SetsHowManyArePresent();
        promise7SetsTheWishCost();
        promise8SetsTheTie();
        promise12Searches();
        promise14LaysTheRememberedPlacement();
        promise17NeedOfATeam();
        promise18ShareOfATeam();
        promise19ZoneOfATeam();
        promise20TeamOfAZone();
        promise21FreeOnADay();
        promise22DistanceOfTwoZones();
        Check.end("PurposeTest");
    }

    /** Each thing that the sentence names has its part in some answer. */
    private static void whatItIs() {
        Check.sentence("What it is",
            "A planner for an office floor: zones with desks on a floor with walls, teams whose people are present on some days and share desks, wishes of teams for zones and ties between teams");
        DeskPlanner p = new DeskPlanner();
        p.addZone(0, 0, 6);
        p.addZone(2, 0, 4);
        Offices.addTeams(p, 2);
        for (int day = 0; day < 5; day++) {
            p.setPresent(0, day, day + 2);
            p.setPresent(1, day, day % 2 * 4);
        }
        Check.equal("need of all who come", p.need(0), 6);
        Check.equal("share, 20 of 30", p.share(0), 66);
        Check.equal("share, 8 of 20", p.share(1), 40);
        p.setWish(0, 0, 7);
        p.setWish(1, 1, 5);
        p.setTie(0, 1, 3);
        Check.equal("the only placement", p.placeBest(), 18);
        Check.equal("the zone with 6 desks", p.zoneOf(0), 0);
        p.setWall(1, 0, true);
        Check.equal("round the wall", p.cost(), 24);
        Check.equal("desks that are free on a day", p.free(0, 3), 1);
        Check.equal("all desks are free on a day", p.free(1, 2), 4);
    }

    /**
     * Three teams in four zones that are two steps from the next one each. By hand they cost
     * 12 of wishes and 14 of ways. The first step of the search is the team 0 into the zone 2, for
     * 21, the second one exchanges the teams 1 and 2, for 18.
     */
    private static DeskPlanner placedByHand() {
        DeskPlanner p = Offices.withZones(5, 5, 5, 5);
        Offices.addTeams(p, 3);
        Offices.wish(p, 0, 5, 0, 4, 5);
        Offices.wish(p, 1, 0, 4, 5, 3);
        Offices.wish(p, 2, 3, 4, 4, 1);
        p.setTie(0, 1, 1);
        p.setTie(0, 2, 1);
        p.setTie(1, 2, 2);
        Offices.lay(p, 3, 1, 0);
        return p;
    }

    private static void termsFourWaysOfPlacing() {
        Check.sentence("Terms",
            "Teams are placed by hand, at the least cost of wishes, by a search that also minds the ways between tied teams, or by trying all placements");
        DeskPlanner p = placedByHand();
        laid(p, "by hand", "3 1 0", 12, 26);
        Check.equal("search", p.search(2, 1), 18);
        laid(p, "by a search", "2 0 1", 8, 18);
        Check.equal("placeBest", p.placeBest(), 16);
        laid(p, "by trying all placements", "1 0 2", 4, 16);
        Check.equal("placeByWishes", p.placeByWishes(), 1);
        laid(p, "at the least cost of wishes", "1 0 3", 1, 19);
    }

    private static void laid(DeskPlanner p, String what, String placement, int wishCost, int cost) {
        Check.equal(what, Offices.placement(p), placement);
        Check.equal("wish cost " + what, p.wishCost(), wishCost);
        Check.equal("cost " + what, p.cost(), cost);
    }

    private static void termsRememberedAndCounted() {
        Check.sentence("Terms",
            "placements are remembered, and the moves from one to the other are counted");
        DeskPlanner p = placedByHand();
        p.remember();
        Check.equal("moves from by hand", p.moves(), 0);
        p.search(2, 1);
        Check.equal("moves from the search, one and a circle of two", p.moves(), 4);
        p.placeBest();
        Check.equal("moves from the best, one behind another", p.moves(), 3);
        p.placeByWishes();
        Check.equal("moves from that by wishes, a circle of three", p.moves(), 4);
    }

    private static void promise2BuildsOrRemoves() {
        Check.sentence("Promise 2", "Builds or removes a wall");
        DeskPlanner p = Offices.withZones(5, 5);
        p.setWall(1, 0, true);
        Check.equal("a wall is built", p.distance(0, 1), 4);
        Check.badState("no zone can be there", () -> p.addZone(1, 0, 5));
        p.setWall(1, 1, true);
        Check.equal("another one", p.distance(0, 1), 6);
        p.setWall(1, 0, false);
        Check.equal("the first one is removed", p.distance(0, 1), 2);
        Check.equal("the other one stands", p.setWall(1, 1, true), true);
        Check.equal("a zone can be there", p.addZone(1, 0, 5), 2);
    }

    private static void promise2WhetherThereIsToBeOne() {
        Check.sentence("Promise 2", "wall: whether there is to be one");
        boolean[] walls = {true, true, false, false, true, false};
        DeskPlanner p = Offices.withZones(5, 5);
        boolean before = false;
        for (boolean wall : walls) {
            Check.equal("there was one", p.setWall(1, 0, wall), before);
            Check.equal("there is one: " + wall, p.distance(0, 1), wall ? 4 : 2);
            before = wall;
        }
    }

    private static void promise3AddsAZone() {
        Check.sentence("Promise 3", "Adds a zone");
        DeskPlanner p = Offices.withZones(5, 5);
        p.addZone(3, 4, 9);
        Check.equal("one more", p.zones(), 3);
        Check.equal("as many desks as told", p.free(2, 0), 9);
        Check.equal("it is without a team", p.teamIn(2), -1);
        Check.equal("where it was told, from 0 0", p.distance(2, 0), 7);
        Check.equal("where it was told, from 2 0", p.distance(2, 1), 5);
        Check.badState("no wall can be there", () -> p.setWall(3, 4, true));
        Check.equal("the others stay", p.free(1, 0), 5);
        p.addTeam();
        Check.equal("a team comes in", p.place(0, 2), -1);
        Check.equal("and is there", p.teamIn(2), 0);
    }

    private static void promise4ChangesTheNumberOfDesks() {
        Check.sentence("Promise 4", "Changes the number of desks of a zone");
        DeskPlanner p = Offices.withZones(5, 5);
        p.addTeam();
        p.setPresent(0, 1, 8);
        Check.badState("8 into 5", () -> p.place(0, 0));
        p.setDesks(0, 9);
        Check.equal("9 of this zone", p.free(0, 0), 9);
        Check.equal("5 of the other one", p.free(1, 0), 5);
        Check.equal("8 into 9", p.place(0, 0), -1);
        p.setDesks(0, 8);
        Check.equal("8 of 8 present", p.free(0, 1), 0);
        Check.equal("1 of 8 present", p.free(0, 0), 7);
        Check.equal("the team stays", p.zoneOf(0), 0);
    }

    private static void promise6SetsHowManyArePresent() {
        Check.sentence("Promise 6", "Sets how many people of a team are present on a day");
        DeskPlanner p = Offices.withZones(9, 9);
        Offices.addTeams(p, 2);
        Offices.lay(p, 1, 0);
        p.setPresent(0, 3, 7);
        Check.equal("on the day", p.free(1, 3), 2);
        Check.equal("on another day", p.free(1, 2), 8);
        Check.equal("of the other team", p.free(0, 3), 8);
        Check.equal("need", p.need(0), 7);
        Check.equal("share, 11 of 35", p.share(0), 31);
        Check.equal("need of the other team", p.need(1), 1);
        p.setPresent(0, 3, 2);
        Check.equal("less on the day", p.free(1, 3), 7);
        Check.equal("less need", p.need(0), 2);
        Check.equal("share, 6 of 10", p.share(0), 60);
    }

    private static void promise7SetsTheWishCost() {
        Check.sentence("Promise 7", "Sets the wish cost of a team for a zone");
        DeskPlanner p = Offices.withZones(5, 5);
        Offices.addTeams(p, 2);
        p.setWish(0, 1, 8);
        p.setWish(1, 0, 9);
        Offices.lay(p, 1, 0);
        Check.equal("each in the zone that it has a cost for", p.wishCost(), 17);
        Check.equal("without ties the cost is the same", p.cost(), 17);
        Check.equal("the placement without these", p.placeByWishes(), 0);
        Check.equal("each in the other zone", Offices.placement(p), "0 1");
        p.setWish(0, 0, 30);
        Check.equal("of the placement that there is", p.wishCost(), 30);
        p.setWish(0, 0, 2);
        Check.equal("set anew", p.wishCost(), 2);
        Check.equal("the least one", p.leastWishCost(), 2);
    }

    private static void promise8SetsTheTie() {
        Check.sentence("Promise 8", "Sets the tie of two teams");
        DeskPlanner p = Offices.withZones(5, 5, 5);
        Offices.addTeams(p, 3);
        Offices.lay(p, 0, 1, 2);
        p.setTie(0, 2, 3);
        Check.equal("3 times 4 steps", p.cost(), 12);
        p.setTie(1, 0, 5);
        Check.equal("and 5 times 2 steps", p.cost(), 22);
        p.setTie(2, 0, 1);
        Check.equal("the first one set anew, from the other side", p.cost(), 14);
        p.setTie(0, 1, 0);
        Check.equal("the second one is no tie any more", p.cost(), 4);
        Check.equal("a tie is no wish", p.wishCost(), 0);
    }

    /** Both teams wish for the zone 3; whose way there is the only one tells where it began. */
    private static void promise12Searches() {
        Check.sentence("Promise 12", "Searches, beginning with the placement that there is");
        DeskPlanner p = Offices.withZones(5, 5, 5, 5);
        Offices.addTeams(p, 2);
        Offices.wish(p, 0, 1, 9, 9, 0);
        Offices.wish(p, 1, 9, 1, 9, 0);
        Offices.lay(p, 0, 2);
        Check.equal("from 0 2", p.search(1, 0), 1);
        Check.equal("the team 1 goes", Offices.placement(p), "0 3");
        Offices.layAnew(p, 2, 1);
        Check.equal("from 2 1", p.search(1, 0), 1);
        Check.equal("the team 0 goes", Offices.placement(p), "3 1");
    }

    private static void promise14LaysTheRememberedPlacement() {
        Check.sentence("Promise 14", "Lays the remembered placement");
        DeskPlanner p = placedByHand();
        p.remember();
        p.search(2, 1);
        Check.equal("teams that the search has moved", p.recall(), 3);
        laid(p, "behind the search", "3 1 0", 12, 26);
        p.placeBest();
        Check.equal("teams that placeBest has moved", p.recall(), 3);
        laid(p, "behind placeBest", "3 1 0", 12, 26);
        p.placeByWishes();
        Check.equal("teams that placeByWishes has moved", p.recall(), 3);
        laid(p, "behind placeByWishes", "3 1 0", 12, 26);
        p.place(1, -1);
        Check.equal("the team that has gone", p.recall(), 1);
        laid(p, "behind place", "3 1 0", 12, 26);
        p.setWish(1, 1, 0);
        p.place(0, 2);
        Check.equal("the wishes that there are now", p.recall(), 1);
        laid(p, "with a wish set since", "3 1 0", 8, 22);
    }

    /** Of seven teams each has a day on which its number and one are present; else one is. */
    private static DeskPlanner sevenTeams() {
        DeskPlanner p = Offices.withZones(9, 9, 9, 9, 9, 9, 9);
        Offices.addTeams(p, 7);
        for (int team = 0; team < 7; team++) {
            p.setPresent(team, team % 5, team + 1);
        }
        Offices.lay(p, 3, 4, 5, 6, 0, 1, 2);
        return p;
    }

    private static void promise17NeedOfATeam() {
        Check.sentence("Promise 17", "Returns the need of a team");
        for (int team = 0; team < 7; team++) {
            Check.equal("team " + team, sevenTeams().need(team), team + 1);
        }
    }

    private static void promise18ShareOfATeam() {
        Check.sentence("Promise 18", "Returns the share of a team");
        int[] due = {100, 60, 46, 40, 36, 33, 31};
        for (int team = 0; team < 7; team++) {
            Check.equal("team " + team, sevenTeams().share(team), due[team]);
        }
    }

    private static void promise19ZoneOfATeam() {
        Check.sentence("Promise 19", "Returns the zone of a team");
        for (int team = 0; team < 7; team++) {
            Check.equal("team " + team, sevenTeams().zoneOf(team), (team + 3) % 7);
        }
    }

    private static void promise20TeamOfAZone() {
        Check.sentence("Promise 20", "Returns the team of a zone");
        for (int zone = 0; zone < 7; zone++) {
            Check.equal("zone " + zone, sevenTeams().teamIn(zone), (zone + 4) % 7);
        }
    }

    private static void promise21FreeOnADay() {
        Check.sentence("Promise 21", "Returns how many desks of a zone are free on a day");
        DeskPlanner p = sevenTeams();
        for (int team = 0; team < 7; team++) {
            for (int day = 0; day < 5; day++) {
                Check.equal("team " + team + " on day " + day, p.free((team + 3) % 7, day),
                    day == team % 5 ? 8 - team : 8);
            }
        }
    }

    private static void promise22DistanceOfTwoZones() {
        Check.sentence("Promise 22", "Returns the distance of two zones");
        int[] columns = {0, 2, 4, 6, 0, 2, 4};
        int[] rows = {0, 0, 0, 0, 2, 2, 2};
        DeskPlanner p = sevenTeams();
        for (int zone = 0; zone < 7; zone++) {
            for (int other = 0; other < 7; other++) {
                Check.equal(zone + " and " + other, p.distance(zone, other),
                    Math.abs(columns[zone] - columns[other]) + Math.abs(rows[zone] - rows[other]));
            }
        }
    }
}
