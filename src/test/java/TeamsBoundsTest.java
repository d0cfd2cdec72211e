/**
 * The boundary cases of the teams, a test for each sentence of the document that names one:
 * Terms, and promises 5 to 8 and 16 to 18.
 */
public final class TeamsBoundsTest {
    private static final int[] NO_TEAMS = {-1, 3, 7, Integer.MIN_VALUE, Integer.MAX_VALUE};
    private static final int[] NO_ZONES = {-1, 4, 7, Integer.MIN_VALUE, Integer.MAX_VALUE};
    private static final int[] NO_DAYS = {-1, 5, 7, Integer.MIN_VALUE, Integer.MAX_VALUE};
    private static final int[] NO_PEOPLE = {-1, 61, Integer.MIN_VALUE, Integer.MAX_VALUE};
    private static final int[] NO_COSTS = {-1, 100, Integer.MIN_VALUE, Integer.MAX_VALUE};
    private static final int[] NO_TIES = {-1, 10, Integer.MIN_VALUE, Integer.MAX_VALUE};

    public static void main(String[] args) {
        termsAtMostSevenTeams();
        termsPeopleOfEachDay();
        termsNeedIsTheGreatest();
        termsShareRoundedDown();
        termsShareIfTheNeedIs0();
        termsWishesAtFirst();
        termsTiesAtFirst();
        promise5InNoZone();
        promise5ReturnsItsNumber();
        promise5SevenTeams();
        promise6NoSuchTeamOrDay();
        promise6PeopleOutOfRange();
        promise6TeamWouldNotFit();
        promise6ReturnsTheNumberBefore();
        promise7NoSuchTeamOrZone();
        promise7CostOutOfRange();
        promise7ReturnsTheCostBefore();
        promise8NoSuchTeam();
        promise8TieOutOfRange();
        promise8BothTheSame();
        promise8ReturnsTheTieBefore();
        promise16Teams();
        promise17NoSuchTeam();
        promise17ReturnsTheNeed();
        promise18NoSuchTeam();
        promise18ReturnsTheShare();
        Check.end("TeamsBoundsTest");
    }

    private static void termsAtMostSevenTeams() {
        Check.sentence("Terms", "Teams are numbered from 0 on; there are at most 7");
        DeskPlanner p = new DeskPlanner();
        for (int team = 0; team < 7; team++) {
            Check.equal("team " + team, p.addTeam(), team);
            p.setPresent(team, 4, 60 - team);
        }
        for (int team = 0; team < 7; team++) {
            Check.equal("need of team " + team, p.need(team), 60 - team);
        }
        Check.badState("eighth", p::addTeam);
        Check.equal("teams", p.teams(), 7);
    }

    private static void termsPeopleOfEachDay() {
        Check.sentence("Terms", 
            "For each of the days 0 to 4 it is told how many people of a team are present, 0 to 60, at first 1 on each");
        for (int team = 0; team < 7; team++) {
            DeskPlanner p = Offices.full();
            for (int day = 0; day < 5; day++) {
                Check.equal("free of one on day " + day, p.free(team, day), 4);
                Check.equal("at first, day " + day, p.setPresent(team, day, 0), 1);
                Check.equal("0 on day " + day, p.free(team, day), 5);
            }
            p.place(team, -1);
            for (int day = 0; day < 5; day++) {
                Check.equal("60 on day " + day, p.setPresent(team, day, 60), 0);
                Check.equal("it is 60 on day " + day, p.setPresent(team, day, day), 60);
            }
            for (int day = 0; day < 5; day++) {
                Check.equal("each day its own, " + day, p.setPresent(team, day, 1), day);
            }
        }
    }

    private static void termsNeedIsTheGreatest() {
        Check.sentence("Terms", "The need of a team is the greatest of these numbers");
        for (int day = 0; day < 5; day++) {
            DeskPlanner p = Offices.withZones(1);
            Offices.addTeams(p, 2);
            Check.equal("1 on each day", p.need(1), 1);
            p.setPresent(1, day, 60);
            Check.equal("60 on day " + day, p.need(1), 60);
            p.setPresent(1, (day + 1) % 5, 59);
            Check.equal("59 on the next", p.need(1), 60);
            p.setPresent(1, day, 0);
            Check.equal("0 on day " + day, p.need(1), 59);
            p.setPresent(1, (day + 1) % 5, 0);
            Check.equal("1 on three days left", p.need(1), 1);
            Check.equal("of another team", p.need(0), 1);
        }
    }

    private static void termsShareRoundedDown() {
        Check.sentence("Terms",
            "its share the sum of them, times 100, divided by 5 times the need, rounded down");
        share(100, 60, 60, 60, 60, 60);
        share(99, 60, 60, 60, 60, 59);
        share(99, 59, 60, 60, 60, 60);
        share(20, 60, 0, 0, 0, 0);
        share(20, 0, 0, 0, 0, 1);
        share(20, 60, 0, 0, 2, 0);
        share(21, 60, 0, 0, 3, 0);
        share(40, 0, 1, 0, 1, 0);
        share(46, 3, 1, 1, 1, 1);
        share(66, 3, 3, 2, 1, 1);
        share(73, 3, 2, 2, 2, 2);
        share(80, 7, 7, 7, 7, 0);
        share(100, 1, 1, 1, 1, 1);
    }

    private static void share(int due, int... people) {
        DeskPlanner p = new DeskPlanner();
        Offices.addTeams(p, 7);
        for (int day = 0; day < 5; day++) {
            p.setPresent(6, day, people[day]);
        }
        Check.equal("share of a need of " + p.need(6), p.share(6), due);
        Check.equal("share of another team", p.share(5), 100);
    }

    private static void termsShareIfTheNeedIs0() {
        Check.sentence("Terms", "(100, if the need is 0)");
        share(100, 0, 0, 0, 0, 0);
        DeskPlanner p = new DeskPlanner();
        p.addTeam();
        for (int day = 0; day < 5; day++) {
            Check.equal("share ahead of day " + day, p.share(0), 100 - 20 * day);
            p.setPresent(0, day, 0);
        }
        Check.equal("need", p.need(0), 0);
        Check.equal("share", p.share(0), 100);
    }

    private static void termsWishesAtFirst() {
        Check.sentence("Terms", "Each team has a wish cost for each zone, 0 to 99, at first 0");
        DeskPlanner p = Offices.full();
        Check.equal("wish cost at first", p.wishCost(), 0);
        for (int team = 0; team < 7; team++) {
            for (int zone = 0; zone < 7; zone++) {
                Check.equal("at first", p.setWish(team, zone, 7 * team + zone), 0);
            }
        }
        for (int team = 0; team < 7; team++) {
            for (int zone = 0; zone < 7; zone++) {
                Check.equal("each two their own", p.setWish(team, zone, 99), 7 * team + zone);
            }
        }
        Check.equal("all of 99", p.wishCost(), 7 * 99);
        DeskPlanner q = new DeskPlanner();
        q.addTeam();
        q.addZone(0, 0, 1);
        q.setWish(0, 0, 99);
        q.addTeam();
        q.addZone(7, 7, 1);
        Check.equal("a team that was added then", q.setWish(1, 0, 1), 0);
        Check.equal("a zone that was added then", q.setWish(0, 1, 1), 0);
        Check.equal("both", q.setWish(1, 1, 1), 0);
        Check.equal("the one before", q.setWish(0, 0, 1), 99);
    }

    private static void termsTiesAtFirst() {
        Check.sentence("Terms", "each two teams have a tie, 0 to 9, at first 0");
        DeskPlanner p = Offices.full();
        Check.equal("cost at first", p.cost(), 0);
        for (int team = 0; team < 7; team++) {
            for (int other = 0; other < team; other++) {
                Check.equal("at first", p.setTie(team, other, (team + other) % 10), 0);
            }
        }
        for (int team = 0; team < 7; team++) {
            for (int other = 0; other < team; other++) {
                Check.equal("each two their own", p.setTie(other, team, 9), (team + other) % 10);
            }
        }
        Check.equal("of the last two", p.setTie(6, 5, 0), 9);
        DeskPlanner q = new DeskPlanner();
        Offices.addTeams(q, 2);
        q.setTie(0, 1, 9);
        q.addTeam();
        Check.equal("a team that was added then", q.setTie(2, 0, 1), 0);
        Check.equal("and the other one", q.setTie(1, 2, 1), 0);
    }

    private static void promise5InNoZone() {
        Check.sentence("Promise 5", "Adds a team that is in no zone");
        DeskPlanner p = Offices.withZones(5, 5, 5, 5, 5, 5, 5);
        for (int team = 0; team < 7; team++) {
            Check.equal("number", p.addTeam(), team);
            Check.equal("zone of team " + team, p.zoneOf(team), -1);
            Check.equal("the zone is without a team", p.teamIn(team), -1);
            p.place(team, team);
        }
        Check.equal("the others stay", Offices.placement(p), "0 1 2 3 4 5 6");
    }

    private static void promise5ReturnsItsNumber() {
        Check.sentence("Promise 5", "Returns its number");
        DeskPlanner p = new DeskPlanner();
        Check.equal("the first", p.addTeam(), 0);
        Check.equal("the second", p.addTeam(), 1);
        Offices.addTeams(p, 4);
        Check.equal("the last", p.addTeam(), 6);
    }

    private static void promise5SevenTeams() {
        Check.sentence("Promise 5", "Throws IllegalStateException if there are 7 teams");
        Refused.badState("eighth of a full office", Offices::full, DeskPlanner::addTeam);
        DeskPlanner p = Offices.busy();
        Offices.addTeams(p, 3);
        Check.equal("the seventh", p.addTeam(), 6);
        Check.badState("the eighth", p::addTeam);
        Check.badState("and again", p::addTeam);
        Check.equal("without any zone", noZones().addTeam(), 6);
    }

    private static DeskPlanner noZones() {
        DeskPlanner p = new DeskPlanner();
        Offices.addTeams(p, 6);
        return p;
    }

    private static void promise6NoSuchTeamOrDay() {
        Check.sentence("Promise 6",
            "Throws IndexOutOfBoundsException if there is no such team or day");
        for (int n : NO_TEAMS) {
            Refused.outOfBounds("team " + n, Offices::busy, p -> p.setPresent(n, 0, 3));
            Refused.outOfBounds("team " + n + ", ahead of people", Offices::busy,
                p -> p.setPresent(n, 4, 61));
        }
        for (int n : NO_DAYS) {
            Refused.outOfBounds("day " + n, Offices::busy, p -> p.setPresent(2, n, 3));
            Refused.outOfBounds("day " + n + ", ahead of people", Offices::busy,
                p -> p.setPresent(2, n, -1));
            Refused.outOfBounds("day " + n + ", ahead of the desks", Offices::busy,
                p -> p.setPresent(0, n, 8));
            Refused.outOfBounds("team and day " + n, Offices::busy, p -> p.setPresent(-1, n, 3));
        }
        Refused.outOfBounds("team 7 of 7", Offices::full, p -> p.setPresent(7, 0, 1));
        Refused.outOfBounds("no team", DeskPlanner::new, p -> p.setPresent(0, 0, 1));
        Check.equal("the first team and day", Offices.full().setPresent(0, 0, 2), 1);
        Check.equal("the last team and day", Offices.full().setPresent(6, 4, 2), 1);
    }

    private static void promise6PeopleOutOfRange() {
        Check.sentence("Promise 6", "Throws IllegalArgumentException if people is out of range");
        for (int n : NO_PEOPLE) {
            Refused.badArgument("people " + n, Offices::busy, p -> p.setPresent(2, 0, n));
            Refused.badArgument("ahead of the desks, " + n, Offices::busy,
                p -> p.setPresent(0, 0, n));
        }
        DeskPlanner p = Offices.busy();
        Check.equal("0", p.setPresent(2, 0, 0), 1);
        Check.equal("60", p.setPresent(2, 0, 60), 0);
        Check.equal("0 in a zone", p.setPresent(0, 0, 0), 5);
    }

    private static void promise6TeamWouldNotFit() {
        Check.sentence("Promise 6",
            "Throws IllegalStateException if the team is in a zone into which it would not fit any more");
        for (int day = 0; day < 5; day++) {
            int then = day;
            Refused.badState("one more than desks on day " + day, Offices::busy,
                p -> p.setPresent(0, then, 8));
            Refused.badState("60 on day " + day, Offices::busy, p -> p.setPresent(1, then, 60));
        }
        DeskPlanner p = Offices.busy();
        Check.equal("as many as desks", p.setPresent(0, 0, 7), 5);
        Check.equal("one less on the fullest day", p.setPresent(0, 4, 6), 7);
        Check.equal("as many as desks again", p.setPresent(1, 4, 5), 1);
        Check.badState("one more again", () -> p.setPresent(1, 4, 6));
        Check.equal("more than any desks, in no zone", p.setPresent(2, 4, 60), 1);
        p.place(1, -1);
        Check.equal("when it has gone", p.setPresent(1, 4, 6), 5);
        DeskPlanner q = Offices.withZones(60);
        q.addTeam();
        q.place(0, 0);
        Check.equal("60 for 60", q.setPresent(0, 3, 60), 1);
    }

    private static void promise6ReturnsTheNumberBefore() {
        Check.sentence("Promise 6", "Returns the number before");
        DeskPlanner p = Offices.full();
        Check.equal("at first", p.setPresent(6, 4, 5), 1);
        Check.equal("5", p.setPresent(6, 4, 5), 5);
        Check.badState("refused", () -> p.setPresent(6, 4, 6));
        Check.equal("5 still", p.setPresent(6, 4, 0), 5);
        Check.equal("0", p.setPresent(6, 4, 0), 0);
    }

    private static void promise7NoSuchTeamOrZone() {
        Check.sentence("Promise 7",
            "Throws IndexOutOfBoundsException if there is no such team or zone");
        for (int n : NO_TEAMS) {
            Refused.outOfBounds("team " + n, Offices::busy, p -> p.setWish(n, 0, 5));
            Refused.outOfBounds("team " + n + ", ahead of the cost", Offices::busy,
                p -> p.setWish(n, 3, 100));
        }
        for (int n : NO_ZONES) {
            Refused.outOfBounds("zone " + n, Offices::busy, p -> p.setWish(0, n, 5));
            Refused.outOfBounds("zone " + n + ", ahead of the cost", Offices::busy,
                p -> p.setWish(2, n, -1));
            Refused.outOfBounds("team and zone " + n, Offices::busy, p -> p.setWish(n, n, 5));
        }
        Refused.outOfBounds("team 7 of 7", Offices::full, p -> p.setWish(7, 0, 5));
        Refused.outOfBounds("zone 7 of 7", Offices::full, p -> p.setWish(0, 7, 5));
        Refused.outOfBounds("no team", TeamsBoundsTest::onlyAZone, p -> p.setWish(0, 0, 5));
        Refused.outOfBounds("no zone", TeamsBoundsTest::noZones, p -> p.setWish(0, 0, 5));
        Check.equal("the last team and zone", Offices.full().setWish(6, 6, 5), 0);
    }

    private static DeskPlanner onlyAZone() {
        return Offices.withZones(5);
    }

    private static void promise7CostOutOfRange() {
        Check.sentence("Promise 7", "Throws IllegalArgumentException if cost is out of range");
        for (int n : NO_COSTS) {
            Refused.badArgument("cost " + n, Offices::busy, p -> p.setWish(0, 2, n));
            Refused.badArgument("cost of another zone " + n, Offices::busy,
                p -> p.setWish(2, 3, n));
        }
        DeskPlanner p = Offices.busy();
        Check.equal("0", p.setWish(2, 3, 0), 28);
        Check.equal("99", p.setWish(2, 3, 99), 0);
        Check.equal("it is 99", p.setWish(2, 3, 0), 99);
    }

    private static void promise7ReturnsTheCostBefore() {
        Check.sentence("Promise 7", "Returns the cost before");
        DeskPlanner p = Offices.full();
        Check.equal("at first", p.setWish(6, 0, 99), 0);
        Check.equal("99", p.setWish(6, 0, 99), 99);
        Check.badArgument("refused", () -> p.setWish(6, 0, 100));
        Check.equal("99 still", p.setWish(6, 0, 0), 99);
        Check.equal("the other way round", p.setWish(0, 6, 1), 0);
    }

    private static void promise8NoSuchTeam() {
        Check.sentence("Promise 8", "Throws IndexOutOfBoundsException if there is no such team");
        for (int n : NO_TEAMS) {
            Refused.outOfBounds("team " + n, Offices::busy, p -> p.setTie(n, 0, 5));
            Refused.outOfBounds("other " + n, Offices::busy, p -> p.setTie(2, n, 5));
            Refused.outOfBounds("team " + n + ", ahead of the tie", Offices::busy,
                p -> p.setTie(n, 0, 10));
            Refused.outOfBounds("other " + n + ", ahead of the tie", Offices::busy,
                p -> p.setTie(0, n, -1));
            Refused.outOfBounds("both " + n + ", ahead of the same", Offices::busy,
                p -> p.setTie(n, n, 5));
        }
        Refused.outOfBounds("team 7 of 7", Offices::full, p -> p.setTie(7, 0, 5));
        Refused.outOfBounds("other 7 of 7", Offices::full, p -> p.setTie(0, 7, 5));
        Refused.outOfBounds("no team", DeskPlanner::new, p -> p.setTie(0, 1, 5));
        Check.equal("the last two", Offices.full().setTie(6, 5, 5), 0);
    }

    private static void promise8TieOutOfRange() {
        Check.sentence("Promise 8", "Throws IllegalArgumentException if tie is out of range");
        for (int n : NO_TIES) {
            Refused.badArgument("tie " + n, Offices::busy, p -> p.setTie(0, 1, n));
            Refused.badArgument("tie from the other side " + n, Offices::busy,
                p -> p.setTie(2, 0, n));
        }
        DeskPlanner p = Offices.busy();
        Check.equal("0", p.setTie(0, 1, 0), 3);
        Check.equal("9", p.setTie(0, 1, 9), 0);
        Check.equal("it is 9", p.setTie(0, 1, 9), 9);
    }

    private static void promise8BothTheSame() {
        Check.sentence("Promise 8", "or both are the same");
        for (int team = 0; team < 7; team++) {
            int same = team;
            Refused.badArgument("5 to itself " + team, Offices::full, p -> p.setTie(same, same, 5));
            Refused.badArgument("0 to itself " + team, Offices::full, p -> p.setTie(same, same, 0));
            Refused.badArgument("10 to itself " + team, Offices::full,
                p -> p.setTie(same, same, 10));
        }
    }

    private static void promise8ReturnsTheTieBefore() {
        Check.sentence("Promise 8", "Returns the tie before");
        DeskPlanner p = Offices.full();
        Check.equal("at first", p.setTie(6, 0, 9), 0);
        Check.equal("9, the other way round", p.setTie(0, 6, 9), 9);
        Check.badArgument("refused", () -> p.setTie(0, 6, 10));
        Check.equal("9 still", p.setTie(6, 0, 1), 9);
        Check.equal("of another two", p.setTie(6, 1, 1), 0);
    }

    private static void promise16Teams() {
        Check.sentence("Promise 16", "Returns how many teams there are");
        DeskPlanner p = new DeskPlanner();
        Check.equal("no team", p.teams(), 0);
        for (int team = 0; team < 7; team++) {
            p.addTeam();
            Check.equal("with team " + team, p.teams(), team + 1);
        }
        Check.badState("eighth", p::addTeam);
        Check.equal("7 still", p.teams(), 7);
    }

    private static void promise17NoSuchTeam() {
        Check.sentence("Promise 17", "Throws IndexOutOfBoundsException if there is no such team");
        for (int n : NO_TEAMS) {
            Refused.outOfBounds("need of " + n, Offices::busy, p -> p.need(n));
        }
        Refused.outOfBounds("team 7 of 7", Offices::full, p -> p.need(7));
        Refused.outOfBounds("no team", DeskPlanner::new, p -> p.need(0));
        Check.equal("the first", Offices.full().need(0), 1);
        Check.equal("the last", Offices.full().need(6), 1);
    }

    private static void promise17ReturnsTheNeed() {
        Check.sentence("Promise 17", "Returns the need");
        DeskPlanner p = Offices.full();
        Check.equal("at first", p.need(6), 1);
        p.setPresent(6, 4, 5);
        Check.equal("as many as its desks", p.need(6), 5);
        Check.badState("refused", () -> p.setPresent(6, 4, 6));
        Check.equal("still", p.need(6), 5);
        for (int day = 0; day < 5; day++) {
            p.setPresent(6, day, 0);
        }
        Check.equal("nobody", p.need(6), 0);
        p.place(6, -1);
        p.setPresent(6, 0, 60);
        Check.equal("as many as may be", p.need(6), 60);
    }

    private static void promise18NoSuchTeam() {
        Check.sentence("Promise 18", "Throws IndexOutOfBoundsException if there is no such team");
        for (int n : NO_TEAMS) {
            Refused.outOfBounds("share of " + n, Offices::busy, p -> p.share(n));
        }
        Refused.outOfBounds("team 7 of 7", Offices::full, p -> p.share(7));
        Refused.outOfBounds("no team", DeskPlanner::new, p -> p.share(0));
        Check.equal("the first", Offices.full().share(0), 100);
        Check.equal("the last", Offices.full().share(6), 100);
    }

    private static void promise18ReturnsTheShare() {
        Check.sentence("Promise 18", "Returns the share");
        DeskPlanner p = Offices.full();
        p.setPresent(6, 4, 5);
        Check.equal("9 of 25", p.share(6), 36);
        Check.badState("refused", () -> p.setPresent(6, 4, 6));
        Check.equal("still", p.share(6), 36);
        for (int day = 0; day < 4; day++) {
            p.setPresent(6, day, 0);
        }
        Check.equal("5 of 25, the least that there is", p.share(6), 20);
        p.setPresent(6, 4, 0);
        Check.equal("nobody", p.share(6), 100);
    }
}
