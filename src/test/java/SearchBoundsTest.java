import java.util.Arrays;

/**
 * The boundary cases of the search, a test for each sentence of the document that names one:
 * Terms, and promise 12.
 */
public final class SearchBoundsTest {
    private static final int FAR = 99;

    public static void main(String[] args) {
        termsBeginsWithThePlacementThatThereIs();
        termsAlwaysTheBestChange();
        termsStepByStep();
        termsBothFitIntoTheZoneOfTheOther();
        termsMovesWhereItFits();
        termsZoneWithoutATeam();
        termsRestsExactlySoManySteps();
        termsRestsTheLongest();
        termsNoRest();
        termsBothOfAnExchangeRest();
        termsNothingRestsAtFirst();
        termsItMayBeMoreThanBefore();
        termsExchangesAheadOfMoves();
        termsExchangesByTheLowerTeam();
        termsMovesByTheTeamAndThenByTheZone();
        termsEndsWhenItHasMadeItsSteps();
        termsEndsWhenThereIsNoChange();
        termsFirstPlacementIncluded();
        termsLeastOfAllThatThereWere();
        termsOfSeveralTheEarliest();
        promise12StepsOutOfRange();
        promise12RestOutOfRange();
        promise12SomeTeamIsInNoZone();
        promise12HowManyStepsAtMost();
        promise12FortySteps();
        promise12ReturnsTheCost();
        Check.end("SearchBoundsTest");
    }

    /** Searches, and looks at the cost that it answers and at what it lays. */
    private static void searched(DeskPlanner p, int steps, int rest, int cost, String placement) {
        String what = "search " + steps + " " + rest;
        Check.equal(what, p.search(steps, rest), cost);
        Check.equal(what + " lays", Offices.placement(p), placement);
        Check.equal(what + " and it costs", p.cost(), cost);
    }

    /** A row of wishes for each team, in as many zones as a row has; each zone has 5 desks. */
    private static DeskPlanner wishing(int[][] wishes, int... zones) {
        DeskPlanner p = new DeskPlanner();
        for (int zone = 0; zone < wishes[0].length; zone++) {
            p.addZone(zone, zone, 5);
        }
        Offices.addTeams(p, wishes.length);
        for (int team = 0; team < wishes.length; team++) {
            Offices.wish(p, team, wishes[team]);
        }
        Offices.lay(p, zones);
        return p;
    }

    private static void termsBeginsWithThePlacementThatThereIs() {
        Check.sentence("Terms", "The search begins with the placement that there is");
        int[][] wishes = {{0, 5, 9, 7}};
        searched(wishing(wishes, 0), 1, 0, 0, "0");
        searched(wishing(wishes, 2), 1, 0, 0, "0");
        int[][] two = {{4, 9, 9, 9}, {0, 1, 2, 3}};
        searched(wishing(two, 0, 3), 1, 0, 5, "0 1");
        searched(wishing(two, 1, 3), 1, 0, 7, "0 3");
    }

    private static void termsAlwaysTheBestChange() {
        Check.sentence("Terms", "The best change is the one behind which the cost is least");
        int[][] lastMove = {{50, 50, 50, 41}, {50, 50, 50, 40}};
        searched(wishing(lastMove, 0, 1), 1, 0, 90, "0 3");
        int[][] lastExchange = {{50, 50, 46, 99}, {50, 50, 45, 99}, {45, 45, 50, 99}};
        searched(wishing(lastExchange, 0, 1, 2), 1, 0, 140, "0 2 1");
        int[][] moveByOne = {{20, 15, 9}, {15, 20, 99}};
        searched(wishing(moveByOne, 0, 1), 1, 0, 29, "2 1");
    }

    /** On a way on which each step costs less, one search is as many searches of one step each. */
    private static void termsStepByStep() {
        Check.sentence("Terms", "and makes step by step always the best change");
        DeskPlanner steps = ladder();
        for (int made = 1; made < 6; made++) {
            DeskPlanner atOnce = ladder();
            int cost = atOnce.search(made, 0);
            Check.equal("the cost of step " + made, steps.search(1, 0), cost);
            Check.equal("step " + made, Offices.placement(steps), Offices.placement(atOnce));
        }
        Check.equal("in the end", Offices.placement(steps), "2 3 5 4");
    }

    private static void termsBothFitIntoTheZoneOfTheOther() {
        Check.sentence("Terms",
            "either two teams, both of which fit into the zone of the other one, exchange their zones");
        exchange("both just fit", 5, 5, 5, 5, 0, "1 0");
        exchange("the lower team does not fit", 5, 4, 5, 1, 100, "0 1");
        exchange("the other team does not fit", 4, 5, 1, 5, 100, "0 1");
        exchange("neither would have to be as large", 1, 60, 1, 1, 0, "1 0");
        exchange("nobody fits", 1, 1, 0, 1, 0, "1 0");
    }

    /** Two teams that both wish for the zone of the other one, and no zone besides. */
    private static void exchange(String what, int desks, int otherDesks, int need, int otherNeed,
            int cost, String placement) {
        DeskPlanner p = Offices.withZones(60, 60);
        Offices.addTeams(p, 2);
        for (int day = 0; day < 5; day++) {
            p.setPresent(0, day, need);
            p.setPresent(1, day, otherNeed);
        }
        Offices.wish(p, 0, 50, 0);
        Offices.wish(p, 1, 0, 50);
        Offices.lay(p, 0, 1);
        p.setDesks(0, desks);
        p.setDesks(1, otherDesks);
        Check.equal(what, p.search(40, 0), cost);
        Check.equal(what + ", it lays", Offices.placement(p), placement);
    }

    private static void termsMovesWhereItFits() {
        Check.sentence("Terms", "or a team moves into a zone without a team, into which it fits");
        move("as many desks as the need", 5, 0, "1");
        move("one desk less", 4, 50, "0");
        move("as few as may be", 1, 50, "0");
        move("as many as may be", 60, 0, "1");
    }

    private static void move(String what, int desks, int cost, String placement) {
        DeskPlanner p = Offices.withZones(5, desks);
        p.addTeam();
        p.setPresent(0, 2, 5);
        Offices.wish(p, 0, 50, 0);
        p.place(0, 0);
        Check.equal(what, p.search(40, 0), cost);
        Check.equal(what + ", it lays", Offices.placement(p), placement);
    }

    private static void termsZoneWithoutATeam() {
        Check.sentence("Terms", "moves into a zone without a team");
        int[][] wishes = {{9, 0}, {0, 0}};
        DeskPlanner p = wishing(wishes, 0, 1);
        p.setDesks(0, 1);
        p.setPresent(1, 0, 5);
        searched(p, 40, 0, 9, "0 1");
        DeskPlanner full = Offices.full();
        full.setWish(0, 0, 9);
        searched(full, 1, 0, 0, "1 0 2 3 4 5 6");
        DeskPlanner one = Offices.withZones(5, 5, 5, 5, 5, 5, 5);
        one.addTeam();
        Offices.wish(one, 0, 7, 6, 5, 4, 3, 2, 1);
        one.place(0, 0);
        searched(one, 1, 0, 1, "6");
    }

    /**
     * Without a rest the steps of the team 0 would be the first and the third: 0 to 1 (30 less), and
     * 1 to 2 (40 less) as soon as the team 1 has left the zone 2 in the second step (20 less). The
     * teams 2 and 3 have what costs 10 and 5 less. So each rest is told by when the team 0 goes on.
     */
    private static DeskPlanner ladder() {
        int[][] wishes = {
            {80, 50, 10, FAR, FAR, FAR, FAR},
            {FAR, FAR, 30, 10, FAR, FAR, FAR},
            {FAR, FAR, FAR, FAR, 20, 10, FAR},
            {FAR, FAR, FAR, FAR, 15, FAR, 20},
        };
        return wishing(wishes, 0, 2, 4, 6);
    }

    private static void termsRestsExactlySoManySteps() {
        Check.sentence("Terms",
            "A team that was changed in one of the last steps of the search, as many as the rest tells");
        Check.equal("cost at first", ladder().cost(), 150);
        for (int rest = 0; rest < 6; rest++) {
            searched(ladder(), 1, rest, 120, "1 2 4 6");
            searched(ladder(), 2, rest, 100, "1 3 4 6");
        }
        searched(ladder(), 3, 0, 60, "2 3 4 6");
        searched(ladder(), 3, 1, 60, "2 3 4 6");
        searched(ladder(), 3, 2, 90, "1 3 5 6");
        searched(ladder(), 4, 2, 50, "2 3 5 6");
        searched(ladder(), 4, 3, 85, "1 3 5 4");
        searched(ladder(), 5, 3, 45, "2 3 5 4");
        searched(ladder(), 40, 4, 85, "1 3 5 4");
        searched(ladder(), 40, 5, 85, "1 3 5 4");
    }

    /**
     * Each team in its turn moves on by one zone, into the one that the team ahead has just left,
     * which costs 10 less. When all have moved, the zone 0 is empty, which costs the team 0 10 less
     * again. Already the turn before would be as good for it, if it did not rest.
     */
    private static DeskPlanner chain(int teams) {
        int[][] wishes = new int[teams][teams + 1];
        int[] zones = new int[teams];
        for (int team = 0; team < teams; team++) {
            Arrays.fill(wishes[team], FAR);
            zones[team] = teams - 1 - team;
            wishes[team][zones[team]] = 20;
            wishes[team][zones[team] + 1] = 10;
        }
        wishes[0][0] = 0;
        wishes[0][1] = 0;
        return wishing(wishes, zones);
    }

    private static void termsRestsTheLongest() {
        Check.sentence("Terms", "must not be changed", "a rest of 3 to 5");
        String[] others = {" 3 2 1", " 4 3 2 1", " 5 4 3 2 1"};
        for (int rest = 3; rest < 6; rest++) {
            int teams = rest + 1;
            String behind = others[rest - 3];
            searched(chain(teams), teams, rest, 10 * teams, teams + behind);
            searched(chain(teams), teams + 1, rest, 10 * teams - 10, "0" + behind);
            Check.equal("with a rest of one less the team 0 is too early, " + rest,
                chain(teams).search(teams + 1, rest - 1), 10 * teams);
        }
    }

    /** The team 1 goes to the zone 2 and then, by an exchange with the team 0, to the zone 0. */
    private static void termsNoRest() {
        Check.sentence("Terms", "must not be changed", "a rest of 0 and of 1");
        int[][] wishes = {{10, FAR, 10}, {0, 20, 10}};
        searched(wishing(wishes, 0, 1), 1, 0, 20, "0 2");
        searched(wishing(wishes, 0, 1), 2, 0, 10, "2 0");
        searched(wishing(wishes, 0, 1), 2, 1, 20, "0 2");
        int[][] lower = {{20, 0, 10}, {FAR, 10, 10}};
        searched(wishing(lower, 0, 1), 1, 0, 20, "2 1");
        searched(wishing(lower, 0, 1), 2, 0, 10, "1 2");
        searched(wishing(lower, 0, 1), 2, 1, 20, "2 1");
    }

    private static void termsBothOfAnExchangeRest() {
        Check.sentence("Terms", "A team that was changed", "both teams of an exchange");
        int[][] other = {{30, 10, FAR}, {10, 30, 0}};
        searched(wishing(other, 0, 1), 1, 1, 20, "1 0");
        searched(wishing(other, 0, 1), 2, 0, 10, "1 2");
        searched(wishing(other, 0, 1), 2, 1, 20, "1 0");
        int[][] lower = {{30, 10, 0}, {10, 30, FAR}};
        searched(wishing(lower, 0, 1), 1, 1, 20, "1 0");
        searched(wishing(lower, 0, 1), 2, 0, 10, "2 0");
        searched(wishing(lower, 0, 1), 2, 1, 20, "1 0");
    }

    private static void termsNothingRestsAtFirst() {
        Check.sentence("Terms", "in one of the last steps of the search", "not of an earlier one");
        DeskPlanner p = ladder();
        searched(p, 1, 5, 120, "1 2 4 6");
        searched(p, 1, 5, 100, "1 3 4 6");
        searched(p, 1, 5, 60, "2 3 4 6");
        searched(p, 40, 5, 45, "2 3 5 4");
        DeskPlanner all = ladder();
        all.search(40, 5);
        searched(all, 1, 5, 45, "2 3 5 4");
    }

    /** The first step costs 2 more at least, and only then the second one costs 10 less. */
    private static void termsItMayBeMoreThanBefore() {
        Check.sentence("Terms", "(it may be more than before)");
        DeskPlanner p = Offices.withZones(5, 5, 1);
        Offices.addTeams(p, 2);
        p.setPresent(1, 2, 5);
        Offices.wish(p, 0, 1, FAR, 3);
        Offices.wish(p, 1, 0, 10, 0);
        Offices.lay(p, 0, 1);
        searched(p, 1, 0, 11, "0 1");
        searched(p, 2, 0, 3, "2 0");
    }

    private static void termsExchangesAheadOfMoves() {
        Check.sentence("Terms", "of several, exchanges come ahead of moves");
        int[][] wishes = {{10, 5, 0}, {5, 10, FAR}};
        searched(wishing(wishes, 0, 1), 1, 0, 10, "1 0");
        DeskPlanner p = Offices.withZones(5, 5, 5, 5, 5, 5, 5);
        Offices.addTeams(p, 6);
        Offices.wish(p, 0, 10, 10, 10, 10, 10, 10, 0);
        Offices.wish(p, 4, 5, 5, 5, 5, 5, 0, 5);
        Offices.wish(p, 5, 5, 5, 5, 5, 0, 5, 5);
        Offices.lay(p, 0, 1, 2, 3, 4, 5);
        searched(p, 1, 0, 10, "0 1 2 3 5 4");
    }

    private static void termsExchangesByTheLowerTeam() {
        Check.sentence("Terms", "exchanges by the lower and then by the other team");
        int[][] all = {{5, 0, 0}, {0, 5, 0}, {0, 0, 5}};
        searched(wishing(all, 0, 1, 2), 1, 0, 5, "1 0 2");
        int[][] last = {{5, 0, 0}, {5, 5, 0}, {0, 0, 5}};
        searched(wishing(last, 0, 1, 2), 1, 0, 5, "2 1 0");
        int[][] across = {{5, FAR, FAR, 0}, {FAR, 5, 0, FAR}, {FAR, 0, 5, FAR}, {0, FAR, FAR, 5}};
        searched(wishing(across, 0, 1, 2, 3), 1, 0, 10, "3 1 2 0");
        int[][] askew = {{FAR, FAR, 0, 5}, {0, 5, FAR, FAR}, {5, 0, FAR, FAR}, {FAR, FAR, 5, 0}};
        searched(wishing(askew, 3, 1, 0, 2), 1, 0, 10, "2 1 0 3");
    }

    private static void termsMovesByTheTeamAndThenByTheZone() {
        Check.sentence("Terms", "moves by the team and then by the zone");
        int[][] both = {{5, FAR, 0}, {FAR, 5, 0}};
        searched(wishing(both, 0, 1), 1, 0, 5, "2 1");
        int[][] zones = {{0, FAR, 0, 5}, {FAR, 5, FAR, FAR}};
        searched(wishing(zones, 3, 1), 1, 0, 5, "0 1");
        int[][] teamFirst = {{FAR, 5, FAR, 0}, {0, FAR, 5, FAR}};
        searched(wishing(teamFirst, 1, 2), 1, 0, 5, "3 2");
    }

    private static void termsEndsWhenItHasMadeItsSteps() {
        Check.sentence("Terms", "The search ends when it has made its steps");
        DeskPlanner p = chain(6);
        for (int steps = 1; steps < 7; steps++) {
            Check.equal("steps " + steps, chain(6).search(steps, 5), 120 - 10 * steps);
        }
        Check.equal("six of six", p.search(6, 5), 60);
        Check.equal("the seventh is not made", Offices.placement(p), "6 5 4 3 2 1");
    }

    private static void termsEndsWhenThereIsNoChange() {
        Check.sentence("Terms", "or when there is no change that it may make");
        for (int teams = 4; teams < 6; teams++) {
            Check.equal("all of them rest, " + teams, chain(teams).search(40, teams), 10 * teams);
        }
        int[][] alone = {{7}};
        searched(wishing(alone, 0), 40, 0, 7, "0");
        searched(wishing(alone, 0), 1, 5, 7, "0");
        DeskPlanner p = Offices.withZones(7, 6, 5, 4, 3, 2, 1);
        Offices.addTeams(p, 7);
        for (int team = 0; team < 7; team++) {
            p.setPresent(team, 0, 7 - team);
            p.setWish(team, team, FAR);
        }
        Offices.lay(p, 0, 1, 2, 3, 4, 5, 6);
        searched(p, 40, 0, 693, "0 1 2 3 4 5 6");
    }

    private static void termsFirstPlacementIncluded() {
        Check.sentence("Terms",
            "The placement with the least cost of all that there were, the first one included");
        int[][] wishes = {{8, FAR, 0}, {FAR, 8, 9}, {9, 9, 0}};
        for (int rest = 0; rest < 6; rest++) {
            searched(wishing(new int[][] {{1, 2, 3}}, 0), 40, rest, 1, "0");
            searched(wishing(wishes, 0, 1, 2), 1, rest, 16, "0 1 2");
        }
    }

    /** The one team goes to the zone 1 and then, as it must move, to the zone 2, and back. */
    private static void termsLeastOfAllThatThereWere() {
        Check.sentence("Terms",
            "The placement with the least cost of all that there were", "neither the first nor the last");
        int[][] alone = {{5, 3, 4}};
        for (int steps = 1; steps < 8; steps++) {
            searched(wishing(alone, 0), steps, 0, 3, "1");
        }
        int[][] wishes = {{5, 3, FAR, FAR}, {FAR, FAR, 5, 9}};
        for (int steps = 1; steps < 4; steps++) {
            searched(wishing(wishes, 0, 2), steps, 5, 8, "1 2");
        }
    }

    private static void termsOfSeveralTheEarliest() {
        Check.sentence("Terms", "of several the earliest, is then laid");
        for (int rest = 0; rest < 6; rest++) {
            int[][] same = {{4, 4, 4, 4}, {4, 4, 4, 4}};
            searched(wishing(same, 3, 1), 40, rest, 8, "3 1");
        }
        int[][] behind = {{5, 3, 3, 3}};
        for (int steps = 1; steps < 8; steps++) {
            searched(wishing(behind, 0), steps, 0, 3, "1");
        }
    }

    private static void promise12StepsOutOfRange() {
        Check.sentence("Promise 12",
            "Throws IllegalArgumentException if steps or rest is out of range", "steps");
        int[] noSteps = {0, 41, -1, Integer.MIN_VALUE, Integer.MAX_VALUE};
        for (int n : noSteps) {
            Refused.badArgument("steps " + n, SearchBoundsTest::ladder, p -> p.search(n, 0));
            Refused.badArgument("steps " + n + ", ahead of a team in no zone", Offices::busy,
                p -> p.search(n, 5));
            Refused.badArgument("steps " + n + " without teams", DeskPlanner::new,
                p -> p.search(n, 0));
        }
        searched(ladder(), 1, 0, 120, "1 2 4 6");
        Check.equal("40 of the ladder", ladder().search(40, 0), 45);
    }

    private static void promise12RestOutOfRange() {
        Check.sentence("Promise 12",
            "Throws IllegalArgumentException if steps or rest is out of range", "rest");
        int[] noRest = {-1, 6, Integer.MIN_VALUE, Integer.MAX_VALUE};
        for (int n : noRest) {
            Refused.badArgument("rest " + n, SearchBoundsTest::ladder, p -> p.search(1, n));
            Refused.badArgument("rest " + n + ", ahead of a team in no zone", Offices::busy,
                p -> p.search(40, n));
            Refused.badArgument("rest " + n + " and no steps", SearchBoundsTest::ladder,
                p -> p.search(0, n));
        }
        Check.equal("rest 0", ladder().search(3, 0), 60);
        Check.equal("rest 5", ladder().search(3, 5), 90);
    }

    private static void promise12SomeTeamIsInNoZone() {
        Check.sentence("Promise 12", "Throws IllegalStateException if some team is in no zone");
        for (int team = 0; team < 7; team++) {
            int out = team;
            Refused.badState("team " + team + " is in none", () -> fullWithout(out),
                p -> p.search(40, 0));
            DeskPlanner p = fullWithout(team);
            p.place(team, team);
            Check.equal("when it has come in", p.search(40, 0), 0);
        }
        Refused.badState("all in none", SearchBoundsTest::nobodyPlaced, p -> p.search(1, 0));
        DeskPlanner one = new DeskPlanner();
        one.addTeam();
        Check.badState("one team, no zone", () -> one.search(1, 0));
        Check.equal("no team is not in no zone", new DeskPlanner().search(1, 0), 0);
    }

    private static DeskPlanner fullWithout(int team) {
        DeskPlanner p = Offices.full();
        p.place(team, -1);
        return p;
    }

    private static DeskPlanner nobodyPlaced() {
        DeskPlanner p = Offices.withZones(5, 5, 5);
        Offices.addTeams(p, 2);
        return p;
    }

    private static void promise12HowManyStepsAtMost() {
        Check.sentence("Promise 12", "steps: 1 to 40: how many steps are made, at most");
        searched(ladder(), 1, 0, 120, "1 2 4 6");
        searched(ladder(), 2, 0, 100, "1 3 4 6");
        searched(ladder(), 3, 0, 60, "2 3 4 6");
        searched(ladder(), 4, 0, 50, "2 3 5 6");
        searched(ladder(), 5, 0, 45, "2 3 5 4");
        searched(ladder(), 40, 0, 45, "2 3 5 4");
    }

    /**
     * Six teams in seven zones that all rest for five steps: from the sixth step on only one of
     * them may go on, and only into the one empty zone, whatever that costs. So each goes on by one
     * zone in its turn, and in the seventh round comes back to where it was. The 40th step brings
     * the team 3 back, while the team 4 is in its zone for 10 still.
     */
    private static void promise12FortySteps() {
        Check.sentence("Promise 12", "steps: 1 to 40", "the 40th step is made");
        int[][] wishes = {
            {FAR, FAR, FAR, FAR, FAR, 20, 19},
            {FAR, FAR, FAR, FAR, 20, 19, FAR},
            {FAR, FAR, FAR, 20, 19, FAR, FAR},
            {FAR, FAR, 20, 19, FAR, FAR, FAR},
            {10, 60, 59, FAR, FAR, FAR, FAR},
            {20, FAR, FAR, FAR, FAR, FAR, 20},
        };
        Check.equal("cost at first", wishing(wishes, 5, 4, 3, 2, 1, 0).cost(), 160);
        searched(wishing(wishes, 5, 4, 3, 2, 1, 0), 5, 5, 155, "6 5 4 3 2 0");
        searched(wishing(wishes, 5, 4, 3, 2, 1, 0), 39, 5, 155, "6 5 4 3 2 0");
        searched(wishing(wishes, 5, 4, 3, 2, 1, 0), 40, 5, 110, "5 4 3 2 0 6");
    }

    private static void promise12ReturnsTheCost() {
        Check.sentence("Promise 12", "Returns the cost of the placement that is laid then");
        DeskPlanner p = Offices.withZones(5, 5, 5, 5);
        Offices.addTeams(p, 3);
        p.setTie(0, 2, 9);
        p.setWish(1, 1, 5);
        Offices.lay(p, 0, 1, 3);
        Check.equal("with ties", p.search(1, 0), 18);
        Check.equal("as cost tells", p.cost(), 18);
        Check.equal("without a better one", p.search(40, 0), 18);
        Check.equal("as cost tells still", p.cost(), 18);
        p.setWall(1, 0, true);
        p.setWall(3, 0, true);
        p.setWall(5, 0, true);
        for (int column = 0; column < 8; column++) {
            p.setWall(column, 1, true);
        }
        Check.equal("no way from any zone to another", p.search(40, 5), 900);
    }
}
