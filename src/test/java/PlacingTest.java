/** Promises 9 to 11, 13, 14, 19, 20 and 23 to 25: placing by hand, at the least cost, and again. */
public final class PlacingTest {
    public static void main(String[] args) {
        place();
        placeWhereItDoesNotFit();
        zoneOfAndTeamIn();
        wishCost();
        cost();
        placeByWishes();
        placeByWishesIsTheFirst();
        placeBest();
        placeBestIsTheFirst();
        noPlacementOfAllTeams();
        leastWishCost();
        sevenTeams();
        rememberAndRecall();
        recallWhereItDoesNotFit();
        Check.end("PlacingTest");
    }

    private static void place() {
        DeskPlanner p = Offices.withZones(5, 5, 5);
        Offices.addTeams(p, 2);
        Check.equal("into a zone", p.place(0, 1), -1);
        Check.equal("into the same", p.place(0, 1), 1);
        Check.equal("into another", p.place(0, 2), 1);
        Check.equal("the one where it was is free", p.place(1, 1), -1);
        Check.badState("another team is there", () -> p.place(1, 2));
        Check.equal("nothing changed", Offices.placement(p), "2 1");
        Check.equal("out", p.place(0, -1), 2);
        Check.equal("out again", p.place(0, -1), -1);
        Check.equal("into the zone left", p.place(1, 2), 1);
        int[] teams = {-1, 2, 7, Integer.MIN_VALUE, Integer.MAX_VALUE};
        for (int n : teams) {
            Check.outOfBounds("place team " + n, () -> p.place(n, 2));
            Check.outOfBounds("place team out " + n, () -> p.place(n, -1));
        }
        int[] zones = {-2, 3, 7, Integer.MIN_VALUE, Integer.MAX_VALUE};
        for (int n : zones) {
            Check.outOfBounds("place zone " + n, () -> p.place(0, n));
        }
        Check.equal("nothing changed by throws", Offices.placement(p), "-1 2");
    }

    private static void placeWhereItDoesNotFit() {
        DeskPlanner p = Offices.withZones(5, 4, 1);
        Offices.addTeams(p, 2);
        p.setPresent(0, 4, 5);
        Check.badState("too few desks", () -> p.place(0, 1));
        Check.equal("in none still", p.zoneOf(0), -1);
        Check.equal("just enough desks", p.place(0, 0), -1);
        Check.badState("too few desks from a zone", () -> p.place(0, 2));
        Check.equal("there still", p.zoneOf(0), 0);
        for (int day = 0; day < 5; day++) {
            p.setPresent(0, day, 0);
        }
        Check.equal("nobody fits anywhere", p.place(0, 2), 0);
    }

    private static void zoneOfAndTeamIn() {
        DeskPlanner p = Offices.withZones(5, 5, 5);
        Offices.addTeams(p, 2);
        Check.equal("teamIn of an empty zone", p.teamIn(0), -1);
        p.place(1, 0);
        p.place(0, 2);
        Check.equal("zoneOf 0", p.zoneOf(0), 2);
        Check.equal("zoneOf 1", p.zoneOf(1), 0);
        Check.equal("teamIn 0", p.teamIn(0), 1);
        Check.equal("teamIn 1", p.teamIn(1), -1);
        Check.equal("teamIn 2", p.teamIn(2), 0);
        int[] teams = {-1, 2, Integer.MIN_VALUE, Integer.MAX_VALUE};
        for (int n : teams) {
            Check.outOfBounds("zoneOf " + n, () -> p.zoneOf(n));
        }
        int[] zones = {-1, 3, Integer.MIN_VALUE, Integer.MAX_VALUE};
        for (int n : zones) {
            Check.outOfBounds("teamIn " + n, () -> p.teamIn(n));
        }
    }

    private static void wishCost() {
        DeskPlanner p = Offices.withZones(5, 5, 5);
        Offices.addTeams(p, 3);
        Offices.wish(p, 0, 1, 2, 3);
        Offices.wish(p, 1, 10, 20, 30);
        Offices.wish(p, 2, 99, 98, 97);
        p.setTie(0, 1, 9);
        Check.equal("nobody placed", p.wishCost(), 0);
        p.place(0, 1);
        Check.equal("one placed", p.wishCost(), 2);
        p.place(2, 2);
        Check.equal("two placed", p.wishCost(), 99);
        p.place(1, 0);
        Check.equal("all placed, without ties", p.wishCost(), 109);
        p.setWish(1, 0, 11);
        p.setWish(1, 2, 0);
        Check.equal("a wish changed", p.wishCost(), 110);
    }

    private static void cost() {
        DeskPlanner p = Offices.withZones(5, 5, 5, 5);
        Offices.addTeams(p, 3);
        p.setTie(0, 1, 3);
        p.setTie(2, 1, 4);
        p.setTie(0, 2, 9);
        Check.equal("nobody placed", p.cost(), 0);
        p.place(0, 0);
        Check.equal("one alone has no way", p.cost(), 0);
        p.place(2, 3);
        Check.equal("two placed", p.cost(), 9 * 6);
        p.place(1, 1);
        Check.equal("all placed, each two once", p.cost(), 9 * 6 + 3 * 2 + 4 * 4);
        p.setWish(1, 1, 50);
        Check.equal("with a wish", p.cost(), 9 * 6 + 3 * 2 + 4 * 4 + 50);
        p.setWall(5, 0, true);
        Check.equal("round a wall", p.cost(), 9 * 8 + 3 * 2 + 4 * 6 + 50);
        p.setWall(5, 1, true);
        p.setWall(6, 1, true);
        p.setWall(7, 0, true);
        Check.equal("no way counts 100", p.cost(), 9 * 100 + 3 * 2 + 4 * 100 + 50);
        p.place(2, -1);
        Check.equal("a tie to a team in no zone", p.cost(), 3 * 2 + 50);
    }

    private static void placeByWishes() {
        DeskPlanner p = Offices.withZones(4, 5, 6, 7);
        Offices.addTeams(p, 4);
        Offices.wish(p, 0, 9, 2, 7, 8);
        Offices.wish(p, 1, 6, 4, 3, 7);
        Offices.wish(p, 2, 5, 8, 1, 8);
        Offices.wish(p, 3, 7, 6, 9, 4);
        p.setTie(0, 3, 9);
        p.setTie(1, 3, 9);
        Check.equal("placeByWishes", p.placeByWishes(), 13);
        Check.equal("its placement", Offices.placement(p), "1 0 2 3");
        Check.equal("its wish cost", p.wishCost(), 13);
        p.place(2, -1);
        p.setPresent(2, 3, 7);
        Check.equal("with a team that fits in the last only", p.placeByWishes(), 20);
        Check.equal("its placement", Offices.placement(p), "1 2 3 0");
        DeskPlanner none = Offices.withZones(4);
        Check.equal("without teams", none.placeByWishes(), 0);
    }

    private static void placeByWishesIsTheFirst() {
        DeskPlanner p = Offices.withZones(5, 5, 5, 5);
        Offices.addTeams(p, 3);
        Offices.layAnew(p, 3, 2, 1);
        Check.equal("no wishes", p.placeByWishes(), 0);
        Check.equal("the first of all", Offices.placement(p), "0 1 2");
        Offices.wish(p, 0, 1, 0, 0, 1);
        Offices.wish(p, 1, 0, 0, 1, 1);
        Offices.wish(p, 2, 1, 0, 1, 0);
        Check.equal("several cost 0", p.placeByWishes(), 0);
        Check.equal("the team 0 lowest, then the team 1", Offices.placement(p), "1 0 3");
        p.setPresent(1, 0, 4);
        p.setDesks(0, 3 + 1);
        Check.equal("still", p.placeByWishes(), 0);
        p.place(1, -1);
        p.setDesks(0, 3);
        Check.equal("not where it does not fit", p.placeByWishes(), 0);
        Check.equal("then the team 0 gives way", Offices.placement(p), "2 1 3");
    }

    private static void placeBest() {
        DeskPlanner p = Offices.withZones(4, 5, 6, 7);
        Offices.addTeams(p, 4);
        p.setTie(0, 3, 9);
        p.setTie(1, 2, 2);
        Offices.layAnew(p, 0, 1, 2, 3);
        Check.equal("cost before", p.cost(), 58);
        Check.equal("placeBest", p.placeBest(), 22);
        Check.equal("its placement", Offices.placement(p), "0 2 3 1");
        Check.equal("its cost", p.cost(), 22);
        p.setWish(0, 0, 50);
        Check.equal("placeBest with a wish", p.placeBest(), 22);
        Check.equal("its placement", Offices.placement(p), "1 2 3 0");
        Offices.wish(p, 3, 60, 0, 0, 0);
        Check.equal("wishes and ties", p.placeBest(), 22);
        Check.equal("its placement", Offices.placement(p), "2 0 1 3");
        DeskPlanner none = new DeskPlanner();
        Check.equal("without teams and zones", none.placeBest(), 0);
    }

    private static void placeBestIsTheFirst() {
        DeskPlanner p = Offices.withZones(5, 5, 5);
        Offices.addTeams(p, 2);
        Offices.layAnew(p, 2, 1);
        Check.equal("nothing costs", p.placeBest(), 0);
        Check.equal("the first of all", Offices.placement(p), "0 1");
        p.setTie(0, 1, 2);
        Offices.layAnew(p, 2, 1);
        Check.equal("a tie", p.placeBest(), 4);
        Check.equal("the first of four", Offices.placement(p), "0 1");
        p.setWish(0, 0, 1);
        Check.equal("a wish", p.placeBest(), 4);
        Check.equal("the first of three", Offices.placement(p), "1 0");
    }

    private static void noPlacementOfAllTeams() {
        DeskPlanner p = new DeskPlanner();
        p.addTeam();
        Check.badState("no zone by wishes", p::placeByWishes);
        Check.badState("no zone best", p::placeBest);
        Check.equal("no zone leastWishCost", p.leastWishCost(), -1);
        p.addZone(0, 0, 4);
        p.addZone(3, 0, 9);
        Offices.addTeams(p, 1);
        p.place(0, 0);
        p.place(1, 1);
        p.addTeam();
        Check.badState("too few zones by wishes", p::placeByWishes);
        Check.badState("too few zones best", p::placeBest);
        Check.equal("too few zones leastWishCost", p.leastWishCost(), -1);
        Check.equal("nothing changed", Offices.placement(p), "0 1 -1");
        p.addZone(5, 0, 3);
        Check.equal("enough zones", p.placeBest(), 0);
        Offices.layAnew(p, -1, -1, -1);
        p.setPresent(0, 0, 4);
        p.setPresent(1, 0, 4);
        p.setPresent(2, 0, 4);
        Check.badState("three into two by wishes", p::placeByWishes);
        Check.badState("three into two best", p::placeBest);
        Check.equal("three into two leastWishCost", p.leastWishCost(), -1);
        Check.equal("nobody placed", Offices.placement(p), "-1 -1 -1");
    }

    private static void leastWishCost() {
        DeskPlanner p = Offices.withZones(5, 5, 5);
        Check.equal("without teams", p.leastWishCost(), 0);
        Offices.addTeams(p, 3);
        Offices.wish(p, 0, 99, 1, 99);
        Offices.wish(p, 1, 5, 1, 9);
        Offices.wish(p, 2, 5, 1, 8);
        p.setTie(0, 1, 9);
        p.setTie(1, 2, 9);
        Offices.lay(p, 2, -1, 0);
        Check.equal("leastWishCost minds no ties", p.leastWishCost(), 14);
        Check.equal("it lays nothing", Offices.placement(p), "2 -1 0");
        Check.equal("cost after it", p.cost(), 99 + 5);
        Check.equal("as placeByWishes", p.placeByWishes(), 14);
    }

    private static void sevenTeams() {
        DeskPlanner p = Offices.withZones(7, 6, 5, 4, 3, 2, 1);
        Offices.addTeams(p, 7);
        for (int team = 0; team < 7; team++) {
            p.setPresent(team, team % 5, team + 1);
            for (int zone = 0; zone < 7; zone++) {
                p.setWish(team, zone, 99);
            }
        }
        Check.equal("leastWishCost of the only one", p.leastWishCost(), 693);
        Check.equal("the only one by wishes", p.placeByWishes(), 693);
        Check.equal("its placement", Offices.placement(p), "6 5 4 3 2 1 0");
        Offices.layAnew(p, -1, -1, -1, -1, -1, -1, -1);
        Check.equal("the only one best", p.placeBest(), 693);
        Check.equal("its placement", Offices.placement(p), "6 5 4 3 2 1 0");
        Check.equal("remember all", p.remember(), 7);
        Offices.layAnew(p, -1, -1, -1, -1, -1, -1, -1);
        Check.equal("recall all", p.recall(), 7);
        Check.equal("its placement", Offices.placement(p), "6 5 4 3 2 1 0");
    }

    private static void rememberAndRecall() {
        DeskPlanner p = Offices.withZones(5, 5, 5, 5);
        Check.equal("remember no teams", p.remember(), 0);
        Offices.addTeams(p, 3);
        Offices.lay(p, 2, -1, 0);
        Check.equal("remember", p.remember(), 2);
        Check.equal("recall the same", p.recall(), 0);
        p.place(0, -1);
        p.place(1, 1);
        p.place(2, 3);
        Check.equal("recall: in, out and elsewhere", p.recall(), 3);
        Check.equal("its placement", Offices.placement(p), "2 -1 0");
        p.place(0, 3);
        p.addTeam();
        p.addTeam();
        p.place(3, 2);
        Check.equal("recall: a team that was added is out", p.recall(), 2);
        Check.equal("its placement", Offices.placement(p), "2 -1 0 -1 -1");
        p.place(0, 1);
        Check.equal("what is remembered stays", p.recall(), 1);
        p.place(4, 1);
        Check.equal("remember anew", p.remember(), 3);
        p.place(4, -1);
        Check.equal("recall the new one", p.recall(), 1);
        Check.equal("its placement", Offices.placement(p), "2 -1 0 -1 1");
    }

    private static void recallWhereItDoesNotFit() {
        DeskPlanner p = Offices.withZones(5, 5, 5);
        Offices.addTeams(p, 2);
        Offices.lay(p, 0, 1);
        p.remember();
        Offices.layAnew(p, 1, 2);
        p.setDesks(0, 1);
        p.setPresent(0, 0, 2);
        Check.badState("too few desks now", p::recall);
        Check.equal("nothing changed", Offices.placement(p), "1 2");
        p.setDesks(0, 2);
        Check.equal("just enough", p.recall(), 2);
        Offices.layAnew(p, 1, 2);
        p.setPresent(1, 4, 5);
        Check.equal("the last team just fits", p.recall(), 2);
        Offices.layAnew(p, -1, 2);
        p.setDesks(1, 4);
        Check.badState("the last team does not fit", p::recall);
        Check.equal("nothing changed again", Offices.placement(p), "-1 2");
    }
}
