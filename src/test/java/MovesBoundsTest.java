/**
 * The boundary cases of circles and moves, a test for each sentence of the document that names
 * one: promises 26 and 27.
 */
public final class MovesBoundsTest {
    public static void main(String[] args) {
        promise26TwoTeamsOrMore();
        promise26TheLastOneIntoThatOfTheFirst();
        promise26HowManyThereAre();
        promise26WithoutTeams();
        promise26WhereItDoesNotFit();
        promise26OnTheWay();
        promise27IntoAnotherZone();
        promise27OutOfAllOrIn();
        promise27OneMoreForEachCircle();
        promise27TeamsThatWereAddedSince();
        promise27WithoutTeams();
        promise27HowManyMovesItTakes();
        promise27MovesThatAreMade();
        Check.end("MovesBoundsTest");
    }

    /** The way from where the teams are to what is remembered: 0 1 2 3 4 5 6 as a rule. */
    private static void way(DeskPlanner p, int circles, int moves, int... zones) {
        Offices.layAnew(p, zones);
        String what = " from " + Offices.placement(p);
        Check.equal("circles" + what, p.circles(), circles);
        Check.equal("moves" + what, p.moves(), moves);
    }

    private static DeskPlanner remembered() {
        DeskPlanner p = Offices.full();
        p.remember();
        return p;
    }

    /** The first of the teams is to be in as many zones as are told, the others in none. */
    private static DeskPlanner remembered(int... zones) {
        DeskPlanner p = Offices.full();
        Offices.layAnew(p, zones);
        p.remember();
        return p;
    }

    private static void promise26TwoTeamsOrMore() {
        Check.sentence("Promise 26", "two teams or more");
        DeskPlanner p = remembered();
        way(p, 0, 0, 0, 1, 2, 3, 4, 5, 6);
        way(p, 1, 3, 1, 0, 2, 3, 4, 5, 6);
        way(p, 1, 3, 6, 1, 2, 3, 4, 5, 0);
        way(p, 1, 3, 0, 1, 2, 3, 4, 6, 5);
        way(p, 1, 4, 2, 0, 1, 3, 4, 5, 6);
        way(p, 1, 4, 1, 2, 0, 3, 4, 5, 6);
        way(p, 1, 5, 0, 1, 2, 6, 3, 4, 5);
        way(p, 1, 8, 1, 2, 3, 4, 5, 6, 0);
        way(p, 1, 8, 6, 0, 1, 2, 3, 4, 5);
        way(p, 1, 8, 2, 3, 4, 5, 6, 0, 1);
    }

    private static void promise26TheLastOneIntoThatOfTheFirst() {
        Check.sentence("Promise 26",
            "each is to come into the zone where the next one is now, the last one into that of the first one");
        DeskPlanner p = remembered();
        way(p, 0, 1, -1, 1, 2, 3, 4, 5, 6);
        way(p, 0, 2, 1, -1, 2, 3, 4, 5, 6);
        way(p, 0, 2, -1, 0, 2, 3, 4, 5, 6);
        way(p, 0, 7, -1, 0, 1, 2, 3, 4, 5);
        way(p, 0, 7, 1, 2, 3, 4, 5, 6, -1);
        DeskPlanner free = remembered(0, 1, 2, -1, -1, -1, -1);
        way(free, 0, 3, 1, 2, 3, -1, -1, -1, -1);
        way(free, 0, 3, 3, 0, 1, -1, -1, -1, -1);
        way(free, 0, 4, 1, 2, 3, 0, -1, -1, -1);
        way(free, 1, 4, 1, 2, 0, -1, -1, -1, -1);
        way(free, 1, 5, 1, 2, 0, 6, -1, -1, -1);
        way(free, 1, 4, 1, 0, 6, -1, -1, -1, -1);
        way(free, 0, 1, 0, 1, 2, -1, -1, -1, 6);
    }

    private static void promise26HowManyThereAre() {
        Check.sentence("Promise 26", "Returns how many circles there are");
        DeskPlanner p = remembered();
        way(p, 2, 6, 1, 0, 2, 3, 4, 6, 5);
        way(p, 2, 6, 6, 5, 2, 3, 4, 1, 0);
        way(p, 2, 7, 1, 0, 3, 4, 2, 5, 6);
        way(p, 3, 9, 1, 0, 3, 2, 5, 4, 6);
        way(p, 3, 9, 0, 2, 1, 4, 3, 6, 5);
        way(p, 3, 9, 6, 5, 4, 3, 2, 1, 0);
        way(p, 2, 9, 1, 2, 3, 0, 5, 6, 4);
        way(p, 2, 8, 1, 2, 0, 4, 5, 3, 6);
        way(p, 3, 10, 1, 0, 3, 2, 5, 6, 4);
    }

    private static void promise26WithoutTeams() {
        Check.sentence("Promise 26",
            "how many circles of teams there are", "without teams, zones, or a way");
        Check.equal("no team, no zone", new DeskPlanner().circles(), 0);
        Check.equal("no team", Offices.withZones(5, 5).circles(), 0);
        Check.equal("nothing remembered", Offices.full().circles(), 0);
        DeskPlanner p = remembered(-1, -1, -1, -1, -1, -1, -1);
        Check.equal("all in none, none to come", p.circles(), 0);
        DeskPlanner one = Offices.withZones(5, 5);
        one.addTeam();
        one.place(0, 1);
        one.remember();
        one.place(0, 0);
        Check.equal("one team", one.circles(), 0);
    }

    private static void promise26WhereItDoesNotFit() {
        Check.sentence("Promise 26",
            "Returns how many circles there are", "where some team would not fit");
        DeskPlanner p = Offices.withZones(5, 5, 5);
        Offices.addTeams(p, 2);
        Offices.lay(p, 0, 1);
        p.remember();
        Offices.layAnew(p, 1, 0);
        p.setDesks(1, 60);
        p.setPresent(0, 0, 60);
        Check.badState("it would not fit", p::recall);
        Check.equal("circles", p.circles(), 1);
        Check.equal("moves", p.moves(), 3);
    }

    private static void promise27IntoAnotherZone() {
        Check.sentence("Promise 27", "one for each team that is to come into another zone");
        DeskPlanner p = remembered(0, 1, 2, -1, -1, -1, -1);
        way(p, 0, 0, 0, 1, 2, -1, -1, -1, -1);
        way(p, 0, 1, 6, 1, 2, -1, -1, -1, -1);
        way(p, 0, 1, 0, 1, 3, -1, -1, -1, -1);
        way(p, 0, 2, 1, 6, 2, -1, -1, -1, -1);
        way(p, 0, 3, 4, 5, 6, -1, -1, -1, -1);
    }

    private static void promise27OutOfAllOrIn() {
        Check.sentence("Promise 27", "or out of all, or in");
        DeskPlanner in = remembered();
        way(in, 0, 1, 0, 1, 2, 3, 4, 5, -1);
        way(in, 0, 7, -1, -1, -1, -1, -1, -1, -1);
        DeskPlanner out = remembered(-1, -1, -1, -1, -1, -1, -1);
        way(out, 0, 0, -1, -1, -1, -1, -1, -1, -1);
        way(out, 0, 1, -1, -1, -1, -1, -1, -1, 0);
        way(out, 0, 1, 6, -1, -1, -1, -1, -1, -1);
        way(out, 0, 7, 0, 1, 2, 3, 4, 5, 6);
        DeskPlanner both = remembered(0, -1, 2, -1, 4, -1, -1);
        way(both, 0, 2, -1, 0, 2, -1, 4, -1, -1);
        way(both, 0, 6, -1, 1, -1, 3, -1, 5, -1);
    }

    private static void promise27OneMoreForEachCircle() {
        Check.sentence("Promise 27", "and one more for each circle");
        DeskPlanner p = remembered();
        way(p, 3, 10, 1, 0, 3, 2, 5, 6, 4);
        way(p, 3, 9, 1, 0, 3, 2, 5, 4, 6);
        way(p, 1, 4, 1, 0, -1, 3, 4, 5, 6);
        way(p, 2, 8, 1, 0, 3, 2, -1, 4, 6);
        DeskPlanner out = remembered(0, 1, -1, -1, -1, -1, -1);
        way(out, 1, 4, 1, 0, 6, -1, -1, -1, -1);
    }

    private static void promise27TeamsThatWereAddedSince() {
        Check.sentence("Promise 27",
            "one for each team that is to come into another zone, or out of all", "added since");
        DeskPlanner p = Offices.withZones(5, 5, 5);
        Offices.addTeams(p, 2);
        Offices.lay(p, 0, 1);
        p.remember();
        p.addTeam();
        way(p, 0, 0, 0, 1, -1);
        way(p, 0, 1, 0, 1, 2);
        way(p, 1, 3, 1, 0, -1);
        way(p, 1, 4, 1, 0, 2);
        way(p, 0, 3, 1, 2, 0);
        way(p, 0, 2, -1, 1, 0);
        Check.equal("as many as recall tells", p.recall(), 2);
        Check.equal("then there is no way to go", p.moves(), 0);
    }

    private static void promise27WithoutTeams() {
        Check.sentence("Promise 27", "Returns how many moves", "without teams");
        Check.equal("no team, no zone", new DeskPlanner().moves(), 0);
        Check.equal("no team", Offices.withZones(5, 5, 5, 5, 5, 5, 5).moves(), 0);
        DeskPlanner p = new DeskPlanner();
        Offices.addTeams(p, 7);
        Check.equal("no zone", p.moves(), 0);
        Check.equal("all of them placed, nothing remembered", Offices.full().moves(), 7);
    }

    /** The circles are counted here by the words: each row of teams that closes. */
    private static void promise26OnTheWay() {
        Check.sentence("Promise 26",
            "Returns how many circles of teams there are on the way to the remembered placement: two teams or more of which each is to come into the zone where the next one is now, the last one into that of the first one");
        for (int[] target : TARGETS) {
            for (int[] start : Ways.placements(4)) {
                DeskPlanner p = from(start, target);
                Check.equal(Ways.text(start, target), p.circles(), Ways.circles(start, target));
            }
        }
    }

    private static final int[][] TARGETS = {
        {0, 1, 2, 3}, {2, 3, 1, 0}, {0, 1, 2, -1}, {3, -1, 0, -1}, {-1, -1, 1, -1},
        {-1, -1, -1, -1},
    };

    /** Four teams in four zones, the target remembered. */
    private static DeskPlanner from(int[] start, int[] target) {
        DeskPlanner p = Offices.withZones(1, 1, 1, 1);
        Offices.addTeams(p, 4);
        Offices.lay(p, target);
        p.remember();
        Offices.layAnew(p, start);
        return p;
    }

    /** All ways are tried by steps of one move, with the room for one team; the shortest is due. */
    private static void promise27HowManyMovesItTakes() {
        Check.sentence("Promise 27",
            "Returns how many moves it takes to come to the remembered placement, if a team moves only into a zone without a team, and there is room for one team outside of all zones");
        for (int[] target : TARGETS) {
            for (int[] start : Ways.placements(4)) {
                DeskPlanner p = from(start, target);
                Check.equal(Ways.text(start, target), p.moves(),
                    Ways.shortest(start, target).size());
            }
        }
    }

    /** The shortest way is gone by place, which refuses a zone with a team. */
    private static void promise27MovesThatAreMade() {
        Check.sentence("Promise 27",
            "Returns how many moves it takes to come to the remembered placement", "each made by place");
        for (int[] target : TARGETS) {
            for (int[] start : Ways.placements(4)) {
                DeskPlanner p = from(start, target);
                int moves = p.moves();
                int made = 0;
                for (int[] where : Ways.shortest(start, target)) {
                    for (int team = 0; team < where.length; team++) {
                        if (p.zoneOf(team) != where[team]) {
                            p.place(team, where[team]);
                            made++;
                        }
                    }
                }
                Check.equal("moves made " + Ways.text(start, target), made, moves);
                Check.equal("nothing is left to do", p.recall(), 0);
            }
        }
    }
}
