/**
 * The boundary cases of placements, a test for each sentence of the document that names one:
 * Terms, and promises 9 to 11, 13, 14, 19, 20 and 23 to 25.
 */
public final class PlacingBoundsTest {
    private static final int[] NO_TEAMS = {-1, 3, 7, Integer.MIN_VALUE, Integer.MAX_VALUE};
    private static final int[] NO_ZONES = {-1, 4, 7, Integer.MIN_VALUE, Integer.MAX_VALUE};

    public static void main(String[] args) {
        termsNoTwoTeamsIntoTheSameZone();
        termsAsManyDesksAsItsNeed();
        termsNeverWhereItDoesNotFit();
        termsWishCostOfAllPlacedTeams();
        termsCostForEachTwoPlacedTeams();
        termsWithoutTeams();
        termsZoneOfTheTeam0First();
        termsAndSoOn();
        promise9NoSuchTeamOrZone();
        promise9NoneIsMinusOne();
        promise9AnotherTeamIsInTheZone();
        promise9TeamDoesNotFit();
        promise9LeavesTheOneWhereItWas();
        promise9ReturnsTheZoneBefore();
        promise10NoPlacementOfAllTeams();
        promise10LeastWishCost();
        promise10OfSeveralTheFirst();
        promise10AllTeams();
        promise10ReturnsItsWishCost();
        promise11NoPlacementOfAllTeams();
        promise11LeastCost();
        promise11OfSeveralTheFirst();
        promise11AllOfThemBeingTried();
        promise11ReturnsItsCost();
        promise13HowManyTeamsAreInAZone();
        promise13RemembersThePlacement();
        promise14TeamsThatWereAddedSince();
        promise14HowManyTeams();
        promise14SomeTeamWouldNotFit();
        promise19NoSuchTeam();
        promise19NoneIsMinusOne();
        promise20NoSuchZone();
        promise20NoneIsMinusOne();
        promise23WishCost();
        promise24Cost();
        promise25MinusOneIfThereIsNone();
        promise25EachOfThemBeingTried();
        Check.end("PlacingBoundsTest");
    }

    private static void laid(DeskPlanner p, String what, String due) {
        Check.equal("placement " + what, Offices.placement(p), due);
    }

    private static void termsNoTwoTeamsIntoTheSameZone() {
        Check.sentence("Terms",
            "A placement puts each team into one zone or none, no two teams into the same one");
        DeskPlanner p = Offices.full();
        for (int team = 0; team < 7; team++) {
            for (int zone = 0; zone < 7; zone++) {
                int one = team;
                int there = zone;
                if (team != zone) {
                    Check.badState(team + " into " + zone, () -> p.place(one, there));
                }
            }
        }
        laid(p, "as it was", "0 1 2 3 4 5 6");
        Check.equal("by wishes each has its own", p.placeByWishes(), 0);
        laid(p, "by wishes", "0 1 2 3 4 5 6");
        DeskPlanner none = Offices.withZones(5, 5);
        Offices.addTeams(none, 2);
        laid(none, "all of them in none", "-1 -1");
    }

    private static void termsAsManyDesksAsItsNeed() {
        Check.sentence("Terms",
            "A team fits into a zone that has as many desks as its need, or more");
        for (int need = 1; need <= 60; need++) {
            DeskPlanner p = Offices.withZones(need, 60);
            p.addTeam();
            p.setPresent(0, need % 5, need);
            Check.equal("as many " + need, p.place(0, 0), -1);
            Check.equal("60 for " + need, p.place(0, 1), 0);
            if (need > 1) {
                p.setDesks(0, need - 1);
                Check.badState("one less than " + need, () -> p.place(0, 0));
            }
        }
        DeskPlanner nobody = Offices.withZones(1);
        nobody.addTeam();
        for (int day = 0; day < 5; day++) {
            nobody.setPresent(0, day, 0);
        }
        Check.equal("nobody", nobody.place(0, 0), -1);
    }

    private static void termsNeverWhereItDoesNotFit() {
        Check.sentence("Terms", "a team is never placed in a zone into which it does not fit");
        DeskPlanner p = Offices.withZones(4, 5, 6);
        Offices.addTeams(p, 3);
        p.setPresent(0, 0, 5);
        p.setPresent(1, 0, 6);
        Offices.wish(p, 0, 0, 50, 0);
        Offices.wish(p, 1, 0, 0, 50);
        Offices.wish(p, 2, 50, 0, 0);
        Check.equal("leastWishCost", p.leastWishCost(), 150);
        Check.equal("by wishes", p.placeByWishes(), 150);
        laid(p, "by wishes", "1 2 0");
        Check.equal("best", p.placeBest(), 150);
        laid(p, "best", "1 2 0");
        Check.equal("search", p.search(40, 0), 150);
        laid(p, "of the search", "1 2 0");
    }

    private static void termsWishCostOfAllPlacedTeams() {
        Check.sentence("Terms",
            "The wish cost of a placement is the sum of the wish costs of all placed teams for their zones");
        DeskPlanner p = Offices.withZones(5, 5, 5, 5, 5, 5, 5);
        Offices.addTeams(p, 7);
        for (int team = 0; team < 7; team++) {
            Offices.wish(p, team, 1, 2, 4, 8, 16, 32, 64);
        }
        Check.equal("none placed", p.wishCost(), 0);
        int due = 0;
        for (int team = 0; team < 7; team++) {
            p.place(team, 6 - team);
            due += 1 << (6 - team);
            Check.equal("placed up to " + team, p.wishCost(), due);
        }
        p.place(3, -1);
        Check.equal("one gone", p.wishCost(), 127 - 8);
    }

    private static void termsCostForEachTwoPlacedTeams() {
        Check.sentence("Terms",
            "The cost of a placement is its wish cost, and for each two placed teams their tie times the distance of their zones");
        for (int team = 1; team < 7; team++) {
            for (int other = 0; other < team; other++) {
                DeskPlanner p = Offices.full();
                p.setTie(team, other, 9);
                int due = 9 * p.distance(team, other);
                Check.equal("tie of " + team + " and " + other, p.cost(), due);
                p.setWish(team, team, 99);
                Check.equal("with a wish", p.cost(), due + 99);
                p.place(other, -1);
                Check.equal("the one in none", p.cost(), 99);
                p.place(other, other);
                p.place(team, -1);
                Check.equal("the other in none", p.cost(), 0);
            }
        }
    }

    private static void termsWithoutTeams() {
        Check.sentence("Terms", "Without teams there is one placement of all teams, which costs 0");
        noCost("without zones", new DeskPlanner());
        noCost("with a zone", Offices.withZones(5));
        noCost("with seven zones", Offices.withZones(5, 5, 5, 5, 5, 5, 5));
    }

    private static void noCost(String what, DeskPlanner p) {
        Check.equal("leastWishCost " + what, p.leastWishCost(), 0);
        Check.equal("placeByWishes " + what, p.placeByWishes(), 0);
        Check.equal("placeBest " + what, p.placeBest(), 0);
        Check.equal("search " + what, p.search(40, 5), 0);
        Check.equal("cost " + what, p.cost(), 0);
        Check.equal("wishCost " + what, p.wishCost(), 0);
    }

    /** Of 1 2 0 and 2 0 1 the team 0 tells, although the team 1 is lower in the second. */
    private static void termsZoneOfTheTeam0First() {
        Check.sentence("Terms",
            "Placements of all teams are compared by the zone of the team 0 first, the lower one first, then by that of the team 1");
        DeskPlanner p = Offices.withZones(5, 5, 5);
        Offices.addTeams(p, 3);
        Offices.wish(p, 0, 5, 0, 0);
        Offices.wish(p, 1, 0, 5, 0);
        Offices.wish(p, 2, 0, 0, 5);
        Check.equal("by wishes", p.placeByWishes(), 0);
        laid(p, "by the zone of the team 0", "1 2 0");
        Offices.layAnew(p, 2, 0, 1);
        Check.equal("best", p.placeBest(), 0);
        laid(p, "best, by the zone of the team 0", "1 2 0");
        Offices.wish(p, 0, 5, 5, 0);
        Offices.wish(p, 1, 0, 0, 5);
        Offices.wish(p, 2, 0, 0, 5);
        Check.equal("by wishes, the team 0 in one only", p.placeByWishes(), 0);
        laid(p, "by the zone of the team 1", "2 0 1");
        Offices.layAnew(p, 2, 1, 0);
        Check.equal("best, the team 0 in one only", p.placeBest(), 0);
        laid(p, "best, by the zone of the team 1", "2 0 1");
    }

    /** The first teams wish for one zone each, from the last zone on; the others for none. */
    private static void termsAndSoOn() {
        Check.sentence("Terms", "then by that of the team 1, and so on");
        String[] due = {
            "0 1 2 3 4 5 6", "6 0 1 2 3 4 5", "6 5 0 1 2 3 4", "6 5 4 0 1 2 3", "6 5 4 3 0 1 2",
            "6 5 4 3 2 0 1", "6 5 4 3 2 1 0",
        };
        for (int choosy = 0; choosy < 7; choosy++) {
            DeskPlanner p = Offices.full();
            for (int team = 0; team < choosy; team++) {
                for (int zone = 0; zone < 7; zone++) {
                    p.setWish(team, zone, zone == 6 - team ? 0 : 1);
                }
            }
            Offices.layAnew(p, 3, 6, 5, 4, 2, 1, 0);
            Check.equal("by wishes, choosy " + choosy, p.placeByWishes(), 0);
            laid(p, "by wishes, choosy " + choosy, due[choosy]);
            Offices.layAnew(p, 3, 6, 5, 4, 2, 1, 0);
            Check.equal("best, choosy " + choosy, p.placeBest(), 0);
            laid(p, "best, choosy " + choosy, due[choosy]);
        }
    }

    private static void promise9NoSuchTeamOrZone() {
        Check.sentence("Promise 9",
            "Throws IndexOutOfBoundsException if there is no such team or zone");
        for (int n : NO_TEAMS) {
            Refused.outOfBounds("team " + n, Offices::busy, p -> p.place(n, 3));
            Refused.outOfBounds("team " + n + " into none", Offices::busy, p -> p.place(n, -1));
            Refused.outOfBounds("team " + n + ", ahead of the team there", Offices::busy,
                p -> p.place(n, 0));
        }
        int[] zones = {-2, 4, 7, Integer.MIN_VALUE, Integer.MAX_VALUE};
        for (int n : zones) {
            Refused.outOfBounds("zone " + n, Offices::busy, p -> p.place(2, n));
            Refused.outOfBounds("zone " + n + " from a zone", Offices::busy, p -> p.place(0, n));
            Refused.outOfBounds("team 3 and zone " + n, Offices::busy, p -> p.place(3, n));
        }
        Refused.outOfBounds("team 7 of 7", Offices::full, p -> p.place(7, -1));
        Refused.outOfBounds("zone 7 of 7", Offices::full, p -> p.place(0, 7));
        Refused.outOfBounds("no team", DeskPlanner::new, p -> p.place(0, -1));
        DeskPlanner p = new DeskPlanner();
        p.addTeam();
        Check.outOfBounds("no zone", () -> p.place(0, 0));
        Check.equal("into none without zones", p.place(0, -1), -1);
        DeskPlanner q = Offices.busy();
        Check.equal("the last team into the last zone", q.place(2, 3), -1);
    }

    private static void promise9NoneIsMinusOne() {
        Check.sentence("Promise 9", "zone: the zone; -1 for none");
        DeskPlanner p = Offices.full();
        for (int team = 0; team < 7; team++) {
            Check.equal("out", p.place(team, -1), team);
            Check.equal("out again", p.place(team, -1), -1);
        }
        laid(p, "of nobody", "-1 -1 -1 -1 -1 -1 -1");
        Check.equal("the first zone is one", p.place(6, 0), -1);
        Check.equal("and the last one", p.place(0, 6), -1);
        laid(p, "of two", "6 -1 -1 -1 -1 -1 0");
    }

    private static void promise9AnotherTeamIsInTheZone() {
        Check.sentence("Promise 9", "Throws IllegalStateException if another team is in the zone");
        Refused.badState("from a zone", Offices::busy, p -> p.place(1, 2));
        Refused.badState("from none", Offices::busy, p -> p.place(2, 0));
        Refused.badState("where it does not fit either", Offices::busy, p -> p.place(0, 0));
        DeskPlanner p = Offices.full();
        for (int team = 0; team < 7; team++) {
            Check.equal("not another one, but itself " + team, p.place(team, team), team);
        }
        p.place(6, -1);
        Check.equal("when it has gone", p.place(0, 6), 0);
        Check.badState("and then back", () -> p.place(6, 6));
        Check.equal("into the one that it left", p.place(6, 0), -1);
    }

    private static void promise9TeamDoesNotFit() {
        Check.sentence("Promise 9", "or the team does not fit");
        Refused.badState("7 into 5", PlacingBoundsTest::withoutTeam1, p -> p.place(0, 0));
        DeskPlanner p = withoutTeam1();
        p.setDesks(0, 6);
        Check.badState("7 into 6", () -> p.place(0, 0));
        p.setDesks(0, 7);
        Check.equal("7 into 7", p.place(0, 0), 2);
    }

    private static DeskPlanner withoutTeam1() {
        DeskPlanner p = Offices.busy();
        p.place(1, -1);
        return p;
    }

    private static void promise9LeavesTheOneWhereItWas() {
        Check.sentence("Promise 9", "Puts a team into a zone; it leaves the one where it was");
        DeskPlanner p = Offices.busy();
        Check.equal("into the last zone", p.place(0, 3), 2);
        Check.equal("the one before is empty", p.teamIn(2), -1);
        Check.equal("it is in one only", p.zoneOf(0), 3);
        Check.equal("another one into the zone before", p.place(2, 2), -1);
    }

    private static void promise9ReturnsTheZoneBefore() {
        Check.sentence("Promise 9", "Returns the zone before; -1 for none");
        DeskPlanner p = Offices.withZones(5, 5);
        p.addTeam();
        Check.equal("none", p.place(0, 0), -1);
        Check.equal("0", p.place(0, 1), 0);
        Check.equal("1", p.place(0, 1), 1);
        Check.equal("1 before none", p.place(0, -1), 1);
    }

    private static void promise10NoPlacementOfAllTeams() {
        Check.sentence("Promise 10",
            "Throws IllegalStateException if there is no placement of all teams");
        for (Crowded office : CROWDED) {
            Refused.badState("by wishes, " + office, office, DeskPlanner::placeByWishes);
        }
        DeskPlanner p = Crowded.TOO_LARGE.open();
        p.setDesks(6, 6);
        Check.equal("one desk more", p.placeByWishes(), 0);
        laid(p, "with one desk more", "0 1 2 3 4 5 6");
        DeskPlanner q = Crowded.ONE_TEAM_TOO_MANY.open();
        q.addZone(7, 7, 1);
        Check.equal("one zone more", q.placeByWishes(), 0);
    }

    private static final Crowded[] CROWDED = Crowded.values();

    /** Offices without a placement of all teams. */
    private enum Crowded implements Refused.Opening {
        ONE_TEAM_NO_ZONE {
            @Override
            public DeskPlanner open() {
                DeskPlanner p = new DeskPlanner();
                p.addTeam();
                return p;
            }
        },
        ONE_TEAM_TOO_MANY {
            @Override
            public DeskPlanner open() {
                DeskPlanner p = Offices.withZones(5, 5, 5, 5, 5, 5);
                Offices.addTeams(p, 7);
                Offices.lay(p, 5, 4, 3, 2, 1, 0, -1);
                return p;
            }
        },
        TOO_LARGE {
            @Override
            public DeskPlanner open() {
                DeskPlanner p = Offices.full();
                Offices.layAnew(p, 6, 5, 4, 3, 2, 1, -1);
                p.setPresent(6, 4, 6);
                return p;
            }
        },
        TWO_FOR_THE_ONE_LARGE_ZONE {
            @Override
            public DeskPlanner open() {
                DeskPlanner p = Offices.withZones(5, 6, 5);
                Offices.addTeams(p, 2);
                p.setPresent(0, 0, 6);
                p.setPresent(1, 0, 6);
                p.place(1, 1);
                return p;
            }
        },
    }

    private static void promise10LeastWishCost() {
        Check.sentence("Promise 10", "Lays the placement of all teams with the least wish cost");
        DeskPlanner p = Offices.withZones(5, 5, 5);
        Offices.addTeams(p, 2);
        p.setTie(0, 1, 9);
        Offices.wish(p, 0, 0, 1, 99);
        Offices.wish(p, 1, 0, 50, 99);
        Check.equal("the dearer one for the first team", p.placeByWishes(), 1);
        laid(p, "by wishes", "1 0");
        Offices.wish(p, 1, 0, 50, 0);
        Check.equal("it minds no ties", p.placeByWishes(), 0);
        laid(p, "far from each other", "0 2");
        Check.equal("though they cost", p.cost(), 36);
    }

    private static void promise10OfSeveralTheFirst() {
        Check.sentence("Promise 10", "of several the first one");
        DeskPlanner p = Offices.full();
        Offices.layAnew(p, 6, 5, 4, 3, 2, 1, 0);
        Check.equal("all cost the same", p.placeByWishes(), 0);
        laid(p, "of seven", "0 1 2 3 4 5 6");
        DeskPlanner q = Offices.full();
        for (int team = 0; team < 7; team++) {
            Offices.wish(q, team, 99, 99, 99, 99, 99, 99, 99);
        }
        Offices.layAnew(q, 6, 5, 4, 3, 2, 1, 0);
        Check.equal("all cost as much as may be", q.placeByWishes(), 693);
        laid(q, "of seven with wishes", "0 1 2 3 4 5 6");
    }

    private static void promise10AllTeams() {
        Check.sentence("Promise 10", "the placement of all teams", "wherever they were");
        DeskPlanner p = Offices.withZones(1, 1, 1);
        Offices.addTeams(p, 2);
        Check.equal("all in none", p.placeByWishes(), 0);
        laid(p, "from none", "0 1");
        p.place(0, 2);
        p.addTeam();
        Check.equal("one of three in none", p.placeByWishes(), 0);
        laid(p, "from somewhere", "0 1 2");
        DeskPlanner one = Offices.withZones(1);
        one.addTeam();
        one.setWish(0, 0, 99);
        Check.equal("one team, one zone", one.placeByWishes(), 99);
        laid(one, "of one", "0");
    }

    private static void promise10ReturnsItsWishCost() {
        Check.sentence("Promise 10", "Returns its wish cost");
        DeskPlanner p = apart();
        Check.equal("as much as may be, without ties", p.placeByWishes(), 693);
        Check.equal("as wishCost tells", p.wishCost(), 693);
        Check.equal("no team", new DeskPlanner().placeByWishes(), 0);
    }

    private static void promise11NoPlacementOfAllTeams() {
        Check.sentence("Promise 11",
            "Throws IllegalStateException if there is no placement of all teams");
        for (Crowded office : CROWDED) {
            Refused.badState("best, " + office, office, DeskPlanner::placeBest);
        }
        DeskPlanner p = Crowded.TOO_LARGE.open();
        p.setDesks(6, 6);
        Check.equal("one desk more", p.placeBest(), 0);
        laid(p, "with one desk more", "0 1 2 3 4 5 6");
        DeskPlanner q = Crowded.ONE_TEAM_TOO_MANY.open();
        q.addZone(7, 7, 1);
        Check.equal("one zone more", q.placeBest(), 0);
    }

    private static void promise11LeastCost() {
        Check.sentence("Promise 11", "Lays the placement of all teams with the least cost");
        DeskPlanner p = Offices.withZones(5, 5, 5);
        Offices.addTeams(p, 2);
        p.setTie(0, 1, 9);
        Offices.wish(p, 0, 0, 17, 99);
        Offices.wish(p, 1, 99, 99, 0);
        Check.equal("the wish 17 is less than two steps", p.placeBest(), 35);
        laid(p, "nearer", "1 2");
        p.setWish(0, 1, 18);
        Check.equal("18 are as much as two steps", p.placeBest(), 36);
        laid(p, "the first one", "0 2");
        p.setWish(0, 1, 19);
        Check.equal("19 are more", p.placeBest(), 36);
        laid(p, "still", "0 2");
        p.setWall(1, 0, true);
        p.setWall(1, 1, true);
        p.setWall(0, 1, true);
        Check.equal("no way from the zone 0", p.placeBest(), 37);
        laid(p, "where there is a way", "1 2");
    }

    private static void promise11OfSeveralTheFirst() {
        Check.sentence("Promise 11", "of several the first one, all of them being tried");
        DeskPlanner p = apart();
        Offices.layAnew(p, 6, 5, 4, 3, 2, 1, 0);
        Check.equal("all cost as much as may be", p.placeBest(), 693 + 21 * 900);
        laid(p, "of seven", "0 1 2 3 4 5 6");
        Check.equal("its cost", p.cost(), 19_593);
    }

    /** A full office with the greatest wishes and ties, and no way from any zone to another. */
    private static DeskPlanner apart() {
        DeskPlanner p = Offices.full();
        for (int team = 0; team < 7; team++) {
            Offices.wish(p, team, 99, 99, 99, 99, 99, 99, 99);
            for (int other = 0; other < team; other++) {
                p.setTie(team, other, 9);
            }
        }
        for (int at = 0; at < 8; at++) {
            p.setWall(at, 1, true);
            p.setWall(at, 3, true);
        }
        for (int column = 1; column < 8; column += 2) {
            p.setWall(column, 0, true);
            p.setWall(column, 2, true);
        }
        return p;
    }

    /** The last one of all placements costs least, the first one most. */
    private static void promise11AllOfThemBeingTried() {
        Check.sentence("Promise 11", "all of them being tried");
        DeskPlanner p = Offices.full();
        for (int team = 0; team < 7; team++) {
            for (int zone = 0; zone < 7; zone++) {
                p.setWish(team, zone, zone == 6 - team ? 98 : 99);
            }
        }
        Check.equal("least wish cost", p.leastWishCost(), 7 * 98);
        Check.equal("best", p.placeBest(), 7 * 98);
        laid(p, "the last one", "6 5 4 3 2 1 0");
        Offices.layAnew(p, 0, 1, 2, 3, 4, 5, 6);
        Check.equal("by wishes", p.placeByWishes(), 7 * 98);
        laid(p, "the last one by wishes", "6 5 4 3 2 1 0");
    }

    private static void promise11ReturnsItsCost() {
        Check.sentence("Promise 11", "Returns its cost");
        DeskPlanner p = Offices.full();
        p.setTie(0, 1, 9);
        p.setWish(6, 6, 99);
        Check.equal("wishes and ties", p.placeBest(), 18);
        Check.equal("as cost tells", p.cost(), 18);
        Check.equal("no team", new DeskPlanner().placeBest(), 0);
    }

    private static void promise13HowManyTeamsAreInAZone() {
        Check.sentence("Promise 13", "Returns how many teams are in a zone");
        Check.equal("no team", new DeskPlanner().remember(), 0);
        Check.equal("no team, seven zones", Offices.withZones(1, 1, 1, 1, 1, 1, 1).remember(), 0);
        DeskPlanner p = Offices.full();
        for (int team = 0; team < 7; team++) {
            Check.equal("all from " + team, p.remember(), 7 - team);
            p.place(team, -1);
        }
        Check.equal("none", p.remember(), 0);
        p.place(6, 0);
        Check.equal("the last team in the first zone", p.remember(), 1);
    }

    private static void promise13RemembersThePlacement() {
        Check.sentence("Promise 13", "Remembers the placement");
        DeskPlanner p = Offices.full();
        p.remember();
        Offices.layAnew(p, -1, -1, 0, 1, 2, 3, 4);
        Check.equal("what is done then is not remembered", p.recall(), 7);
        laid(p, "of the first remember", "0 1 2 3 4 5 6");
        p.place(6, -1);
        Check.equal("remember anew", p.remember(), 6);
        p.place(6, 6);
        Check.equal("the former one is forgotten", p.recall(), 1);
        laid(p, "of the second remember", "0 1 2 3 4 5 -1");
        Offices.layAnew(p, -1, -1, -1, -1, -1, -1, -1);
        Check.equal("remember none", p.remember(), 0);
        Offices.lay(p, 0, 1, 2, 3, 4, 5, 6);
        Check.equal("all go again", p.recall(), 7);
    }

    private static void promise14TeamsThatWereAddedSince() {
        Check.sentence("Promise 14", "Teams that were added since are in no zone then");
        DeskPlanner p = Offices.withZones(5, 5, 5, 5, 5, 5, 5);
        Offices.addTeams(p, 1);
        p.place(0, 6);
        p.remember();
        Offices.addTeams(p, 6);
        Offices.layAnew(p, 0, 1, 2, 3, 4, 5, 6);
        Check.equal("six are added since, one of them in the way", p.recall(), 7);
        laid(p, "of the first one only", "6 -1 -1 -1 -1 -1 -1");
        Check.equal("those in none stay there", p.recall(), 0);
        DeskPlanner q = Offices.full();
        Check.equal("never remembered: all are added since", q.recall(), 7);
        laid(q, "of nobody", "-1 -1 -1 -1 -1 -1 -1");
    }

    private static void promise14HowManyTeams() {
        Check.sentence("Promise 14",
            "Returns how many teams are in another zone than before, or in none any more, or in one who were in none");
        Check.equal("no team", new DeskPlanner().recall(), 0);
        DeskPlanner p = Offices.full();
        p.place(0, -1);
        p.remember();
        Check.equal("none changed, one of them in none", p.recall(), 0);
        p.place(0, 0);
        Check.equal("one in none any more", p.recall(), 1);
        p.place(6, -1);
        Check.equal("one in a zone again", p.recall(), 1);
        p.place(6, 0);
        Check.equal("one in another zone", p.recall(), 1);
        Offices.layAnew(p, 6, 0, 1, 2, 3, 4, 5);
        Check.equal("all seven", p.recall(), 7);
        laid(p, "as remembered", "-1 1 2 3 4 5 6");
    }

    private static void promise14SomeTeamWouldNotFit() {
        Check.sentence("Promise 14", "Throws IllegalStateException if some team would not fit");
        for (int team = 0; team < 7; team++) {
            int large = team;
            Refused.badState("team " + team + " needs one more", () -> grown(large, 6),
                DeskPlanner::recall);
            Check.equal("team " + team + " just fits", grown(large, 5).recall(), 7);
        }
        DeskPlanner p = grown(6, 6);
        p.setDesks(6, 6);
        Check.equal("one desk more", p.recall(), 7);
        DeskPlanner q = grown(0, 5);
        q.setDesks(0, 4);
        Check.badState("one desk less", q::recall);
        laid(q, "of nobody still", "-1 -1 -1 -1 -1 -1 -1");
        DeskPlanner r = Offices.withZones(1);
        r.addTeam();
        r.remember();
        r.setPresent(0, 0, 60);
        Check.equal("none is large enough for all", r.recall(), 0);
    }

    /** A full office that is remembered; then all teams go, and one of them grows. */
    private static DeskPlanner grown(int team, int people) {
        DeskPlanner p = Offices.full();
        p.remember();
        Offices.layAnew(p, -1, -1, -1, -1, -1, -1, -1);
        p.setPresent(team, 4, people);
        return p;
    }

    private static void promise19NoSuchTeam() {
        Check.sentence("Promise 19", "Throws IndexOutOfBoundsException if there is no such team");
        for (int n : NO_TEAMS) {
            Refused.outOfBounds("zoneOf " + n, Offices::busy, p -> p.zoneOf(n));
        }
        Refused.outOfBounds("team 7 of 7", Offices::full, p -> p.zoneOf(7));
        Refused.outOfBounds("no team", DeskPlanner::new, p -> p.zoneOf(0));
        Check.equal("the first", Offices.full().zoneOf(0), 0);
        Check.equal("the last", Offices.full().zoneOf(6), 6);
    }

    private static void promise19NoneIsMinusOne() {
        Check.sentence("Promise 19", "Returns the zone; -1 for none");
        DeskPlanner p = Offices.busy();
        Check.equal("a zone", p.zoneOf(0), 2);
        Check.equal("the zone 0", p.zoneOf(1), 0);
        Check.equal("none", p.zoneOf(2), -1);
        p.place(1, -1);
        Check.equal("none any more", p.zoneOf(1), -1);
    }

    private static void promise20NoSuchZone() {
        Check.sentence("Promise 20", "Throws IndexOutOfBoundsException if there is no such zone");
        for (int n : NO_ZONES) {
            Refused.outOfBounds("teamIn " + n, Offices::busy, p -> p.teamIn(n));
        }
        Refused.outOfBounds("zone 7 of 7", Offices::full, p -> p.teamIn(7));
        Refused.outOfBounds("no zone", DeskPlanner::new, p -> p.teamIn(0));
        Check.equal("the first", Offices.full().teamIn(0), 0);
        Check.equal("the last", Offices.full().teamIn(6), 6);
    }

    private static void promise20NoneIsMinusOne() {
        Check.sentence("Promise 20", "Returns the team; -1 for none");
        DeskPlanner p = Offices.busy();
        Check.equal("the team 0", p.teamIn(2), 0);
        Check.equal("a team", p.teamIn(0), 1);
        Check.equal("none", p.teamIn(1), -1);
        Check.equal("none in the last", p.teamIn(3), -1);
        p.place(0, -1);
        Check.equal("none any more", p.teamIn(2), -1);
    }

    private static void promise23WishCost() {
        Check.sentence("Promise 23", "Returns the wish cost of the placement");
        Check.equal("no zone, no team", new DeskPlanner().wishCost(), 0);
        DeskPlanner p = apart();
        Check.equal("as much as may be", p.wishCost(), 693);
        Offices.layAnew(p, -1, -1, -1, -1, -1, -1, -1);
        Check.equal("all in none", p.wishCost(), 0);
        p.place(6, 0);
        Check.equal("the last team in the first zone", p.wishCost(), 99);
    }

    private static void promise24Cost() {
        Check.sentence("Promise 24", "Returns the cost of the placement");
        Check.equal("no zone, no team", new DeskPlanner().cost(), 0);
        DeskPlanner p = apart();
        Check.equal("as much as may be", p.cost(), 693 + 21 * 900);
        Offices.layAnew(p, -1, -1, -1, -1, -1, -1, -1);
        Check.equal("all in none", p.cost(), 0);
        p.place(6, 0);
        Check.equal("one alone", p.cost(), 99);
        p.place(0, 6);
        Check.equal("two", p.cost(), 198 + 900);
    }

    private static void promise25MinusOneIfThereIsNone() {
        Check.sentence("Promise 25", "-1 if there is none");
        for (Crowded office : CROWDED) {
            DeskPlanner asked = office.open();
            Check.equal("of " + office, asked.leastWishCost(), -1);
            Check.equal("it changes nothing", Everything.of(asked), Everything.of(office.open()));
        }
        Check.equal("no zone, no team", new DeskPlanner().leastWishCost(), 0);
        DeskPlanner p = Crowded.TOO_LARGE.open();
        p.setDesks(6, 6);
        Check.equal("one desk more", p.leastWishCost(), 0);
        p.setDesks(6, 5);
        Check.equal("one desk less again", p.leastWishCost(), -1);
    }

    private static void promise25EachOfThemBeingTried() {
        Check.sentence("Promise 25",
            "Returns the least wish cost of all placements of all teams, each of them being tried");
        Check.equal("as much as may be", apart().leastWishCost(), 693);
        DeskPlanner p = Offices.withZones(5, 5, 5);
        Offices.addTeams(p, 2);
        Offices.wish(p, 0, 0, 3, 9);
        Offices.wish(p, 1, 1, 9, 5);
        p.setTie(0, 1, 9);
        Check.equal("nobody is placed", p.leastWishCost(), 4);
        Check.equal("nobody is placed by it", Offices.placement(p), "-1 -1");
        Offices.lay(p, 2, 1);
        Check.equal("the same wherever they are", p.leastWishCost(), 4);
        Check.equal("they stay there", Offices.placement(p), "2 1");
        p.setWish(0, 1, 6);
        Check.equal("another one then", p.leastWishCost(), 5);
    }
}
