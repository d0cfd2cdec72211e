/** Promise 12: the search. */
public final class SearchTest {
    public static void main(String[] args) {
        wrongInputs();
        nothingToSearch();
        stepsAndRest();
        nothingRestsFromAnEarlierSearch();
        orderOfMoves();
        overAHill();
        onlyWhereBothFit();
        waysOfTies();
        sevenTeams();
        Check.end("SearchTest");
    }

    private static void wrongInputs() {
        DeskPlanner p = Offices.withZones(5, 5);
        p.addTeam();
        p.setWish(0, 0, 9);
        int[] steps = {0, 41, -1, Integer.MIN_VALUE, Integer.MAX_VALUE};
        for (int n : steps) {
            Check.badArgument("steps, ahead of state " + n, () -> p.search(n, 0));
        }
        int[] rests = {-1, 6, Integer.MIN_VALUE, Integer.MAX_VALUE};
        for (int n : rests) {
            Check.badArgument("rest, ahead of state " + n, () -> p.search(1, n));
        }
        Check.badState("a team in no zone", () -> p.search(1, 0));
        p.place(0, 0);
        p.addTeam();
        Check.badState("one of two in no zone", () -> p.search(40, 5));
        p.place(1, 1);
        for (int n : steps) {
            Check.badArgument("steps " + n, () -> p.search(n, 5));
        }
        for (int n : rests) {
            Check.badArgument("rest " + n, () -> p.search(40, n));
        }
        Check.equal("nothing changed", Offices.placement(p), "0 1");
    }

    private static void nothingToSearch() {
        DeskPlanner p = new DeskPlanner();
        Check.equal("without teams and zones", p.search(1, 0), 0);
        p.addZone(3, 3, 1);
        Check.equal("without teams", p.search(40, 5), 0);
        p.addTeam();
        p.place(0, 0);
        p.setWish(0, 0, 7);
        Check.equal("no change that it may make", p.search(40, 0), 7);
        Check.equal("its placement", p.zoneOf(0), 0);
    }

    private static DeskPlanner threeInFour() {
        DeskPlanner p = Offices.withZones(5, 5, 5, 5);
        Offices.addTeams(p, 3);
        Offices.wish(p, 0, 7, 4, 2, 6);
        Offices.wish(p, 1, 2, 0, 2, 4);
        Offices.wish(p, 2, 7, 4, 3, 5);
        Offices.lay(p, 0, 1, 2);
        return p;
    }

    private static void searched(int steps, int rest, int cost, String placement) {
        DeskPlanner p = threeInFour();
        String what = "search " + steps + " " + rest;
        Check.equal("cost before, " + what, p.cost(), 10);
        Check.equal(what, p.search(steps, rest), cost);
        Check.equal("placement, " + what, Offices.placement(p), placement);
        Check.equal("cost, " + what, p.cost(), cost);
    }

    /**
     * The first step has three changes that cost 9: two exchanges and a move. Without rest the
     * way is then 0 1 2 (10), 1 0 2 (9), 2 0 1 (8), 1 0 2 (9), and so on. With rest 1 it is
     * 0 1 2 (10), 1 0 2 (9), 1 0 3 (11), 2 0 3 (9), 2 1 3 (7). With rest 2 it ends at 1 0 3,
     * as the teams 0 and 1 rest from the first step and the team 2 from the second.
     */
    private static void stepsAndRest() {
        searched(1, 0, 9, "1 0 2");
        searched(2, 0, 8, "2 0 1");
        searched(3, 0, 8, "2 0 1");
        searched(4, 0, 8, "2 0 1");
        searched(40, 0, 8, "2 0 1");
        searched(1, 1, 9, "1 0 2");
        searched(2, 1, 9, "1 0 2");
        searched(3, 1, 9, "1 0 2");
        searched(4, 1, 7, "2 1 3");
        searched(4, 2, 9, "1 0 2");
        searched(40, 2, 9, "1 0 2");
        searched(40, 5, 9, "1 0 2");
    }

    private static void nothingRestsFromAnEarlierSearch() {
        DeskPlanner p = threeInFour();
        Check.equal("first search", p.search(1, 5), 9);
        Check.equal("second search", p.search(1, 5), 8);
        Check.equal("its placement", Offices.placement(p), "2 0 1");
    }

    private static void orderOfMoves() {
        DeskPlanner p = Offices.withZones(1, 5, 5, 5);
        Offices.addTeams(p, 2);
        p.setPresent(1, 0, 2);
        Offices.wish(p, 0, 3, 9, 1, 1);
        Offices.wish(p, 1, 9, 3, 1, 1);
        Offices.lay(p, 0, 1);
        Check.equal("three moves cost the same", p.search(1, 0), 4);
        Check.equal("the lowest team to the lowest zone", Offices.placement(p), "2 1");
        Check.equal("then the other one", p.search(1, 0), 2);
        Check.equal("into the zone that is left", Offices.placement(p), "2 3");
    }

    /** The first step must make it dearer; only the second one finds what costs less. */
    private static void overAHill() {
        DeskPlanner p = Offices.withZones(5, 5, 1);
        Offices.addTeams(p, 2);
        p.setPresent(1, 2, 5);
        Offices.wish(p, 0, 1, 99, 3);
        Offices.wish(p, 1, 0, 10, 0);
        Offices.lay(p, 0, 1);
        Check.equal("one step", p.search(1, 0), 11);
        Check.equal("the first placement is laid", Offices.placement(p), "0 1");
        Check.equal("two steps", p.search(2, 0), 3);
        Check.equal("the last placement is laid", Offices.placement(p), "2 0");
    }

    private static void onlyWhereBothFit() {
        DeskPlanner p = Offices.withZones(2, 1);
        Offices.addTeams(p, 2);
        p.setPresent(0, 0, 2);
        Offices.wish(p, 0, 50, 0);
        Offices.wish(p, 1, 0, 50);
        Offices.lay(p, 0, 1);
        Check.equal("the lower team does not fit", p.search(5, 0), 100);
        DeskPlanner q = Offices.withZones(1, 2);
        Offices.addTeams(q, 2);
        q.setPresent(1, 0, 2);
        Offices.wish(q, 0, 50, 0);
        Offices.wish(q, 1, 0, 50);
        Offices.lay(q, 0, 1);
        Check.equal("the other team does not fit", q.search(5, 0), 100);
        q.setDesks(0, 2);
        Check.equal("both fit", q.search(5, 0), 0);
        Check.equal("its placement", Offices.placement(q), "1 0");
    }

    private static void waysOfTies() {
        DeskPlanner p = Offices.withZones(5, 5, 5, 5);
        Offices.addTeams(p, 3);
        p.setTie(0, 2, 5);
        Offices.lay(p, 0, 1, 3);
        Check.equal("several exchanges and moves", p.search(1, 0), 10);
        Check.equal("the first exchange ahead of the move", Offices.placement(p), "0 3 1");
        p.setWall(1, 0, true);
        Check.equal("a wall between", p.cost(), 20);
        Check.equal("no way round is wanted", p.search(1, 0), 10);
        Check.equal("the move of the lower team", Offices.placement(p), "2 3 1");
    }

    private static void sevenTeams() {
        DeskPlanner p = Offices.withZones(5, 5, 5, 5, 5, 5, 5);
        Offices.addTeams(p, 7);
        for (int team = 0; team < 7; team++) {
            for (int zone = 0; zone < 7; zone++) {
                p.setWish(team, zone, zone == (team + 1) % 7 ? 0 : 10);
            }
        }
        Offices.lay(p, 0, 1, 2, 3, 4, 5, 6);
        Check.equal("six exchanges bring all on", p.search(6, 0), 0);
        Check.equal("its placement", Offices.placement(p), "1 2 3 4 5 6 0");
        Offices.layAnew(p, 0, 1, 2, 3, 4, 5, 6);
        Check.equal("five do not", p.search(5, 0), 20);
    }
}
