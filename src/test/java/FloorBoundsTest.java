/**
 * The boundary cases of the floor, a test for each sentence of the document that names one:
 * Terms, and promises 1 to 4, 15, 21 and 22.
 */
public final class FloorBoundsTest {
    private static final int[] OFF_THE_FLOOR = {
        -1, 8, -8, 16, 63, 64, Integer.MIN_VALUE, Integer.MAX_VALUE
    };
    private static final int[] NO_DESKS = {0, 61, -1, Integer.MIN_VALUE, Integer.MAX_VALUE};

    public static void main(String[] args) {
        termsColumnsAndRows();
        termsSquareIsAColumnAndARow();
        termsNoWallAtFirst();
        termsStepsAreInTheSameColumnOrRow();
        termsNoWayRoundTheEdge();
        termsNoWay();
        termsLeastNumberOfSteps();
        termsAtMostSevenZones();
        termsSquareOfItsOwn();
        promise1NewObject();
        promise1RememberedPlacement();
        promise2NoSuchSquare();
        promise2ZoneAtTheSquare();
        promise2WhetherThereWasOne();
        promise3NoSuchSquare();
        promise3DesksOutOfRange();
        promise3SevenZones();
        promise3WallOrZone();
        promise3ReturnsItsNumber();
        promise4NoSuchZone();
        promise4DesksOutOfRange();
        promise4TeamWouldNotFit();
        promise4ReturnsTheNumberBefore();
        promise15Zones();
        promise21NoSuchZoneOrDay();
        promise21DesksLessThePeople();
        promise22NoSuchZone();
        promise22AnotherOneOrTheSame();
        promise22ReturnsTheDistance();
        Check.end("FloorBoundsTest");
    }

    private static void termsColumnsAndRows() {
        Check.sentence("Terms", "The floor has the columns 0 to 7 and the rows 0 to 7");
        for (int column = 0; column < 8; column++) {
            for (int row = 0; row < 8; row++) {
                DeskPlanner p = new DeskPlanner();
                Check.equal("wall at " + column + " " + row,
                    p.setWall(column, row, true), false);
                Check.equal("walls with it", countWalls(p), 1);
                Check.equal("zone at " + row + " " + column, p.addZone(row, column, 1), 0);
            }
        }
    }

    /** Tears all walls down; there must be no zone. */
    private static int countWalls(DeskPlanner p) {
        int count = 0;
        for (int column = 0; column < 8; column++) {
            for (int row = 0; row < 8; row++) {
                count += p.setWall(column, row, false) ? 1 : 0;
            }
        }
        return count;
    }

    /** Each square has its own wall or none, whatever the others have. */
    private static void termsSquareIsAColumnAndARow() {
        Check.sentence("Terms", "a square is a column and a row, with a wall or not");
        DeskPlanner p = new DeskPlanner();
        for (int square = 0; square < 64; square++) {
            p.setWall(square / 8, square % 8, hasWall(square));
        }
        for (int square = 0; square < 64; square++) {
            boolean wall = p.setWall(square / 8, square % 8, !hasWall(square));
            Check.equal("column " + square / 8 + " row " + square % 8, wall, hasWall(square));
        }
    }

    private static boolean hasWall(int square) {
        return square * square % 13 % 2 == 1;
    }

    private static void termsNoWallAtFirst() {
        Check.sentence("Terms", "(at first none has one)");
        Check.equal("walls at first", countWalls(new DeskPlanner()), 0);
    }

    private static void termsStepsAreInTheSameColumnOrRow() {
        Check.sentence("Terms", "a square without a wall beside it in the same column or row");
        DeskPlanner p = zonesAt(3, 3, 4, 4, 2, 4, 4, 2, 2, 2);
        Check.equal("across a corner it takes two", p.distance(0, 1), 2);
        p.setWall(3, 4, true);
        p.setWall(4, 3, true);
        Check.equal("round two walls", p.distance(0, 1), 6);
        p.setWall(2, 3, true);
        p.setWall(3, 2, true);
        for (int other = 1; other < 5; other++) {
            Check.equal("no step across a corner to " + other, p.distance(0, other), 100);
        }
        p.setWall(3, 2, false);
        Check.equal("open to the row before", p.distance(0, 4), 2);
        p.setWall(3, 2, true);
        p.setWall(2, 3, false);
        Check.equal("open to the column before", p.distance(0, 4), 2);
        p.setWall(2, 3, true);
        p.setWall(3, 4, false);
        Check.equal("open to the row behind", p.distance(0, 1), 2);
        p.setWall(3, 4, true);
        p.setWall(4, 3, false);
        Check.equal("open to the column behind", p.distance(0, 1), 2);
    }

    /** The columns 7 and 0 are not beside each other, nor is the end of a row beside the next row. */
    private static void termsNoWayRoundTheEdge() {
        Check.sentence("Terms",
            "each step leading to a square without a wall beside it", "round the edge");
        DeskPlanner p = zonesAt(0, 0, 7, 0, 0, 7, 7, 7, 0, 1);
        Check.equal("along the row 0", p.distance(0, 1), 7);
        Check.equal("along the column 0", p.distance(0, 2), 7);
        Check.equal("from corner to corner", p.distance(0, 3), 14);
        Check.equal("from corner to corner, across", p.distance(1, 2), 14);
        Check.equal("from the end of a row to the next one", p.distance(1, 4), 8);
        for (int row = 0; row < 8; row++) {
            p.setWall(4, row, true);
        }
        Check.equal("a wall down the whole column", p.distance(0, 1), 100);
        Check.equal("and from a row's end to the next one", p.distance(1, 4), 100);
        DeskPlanner q = zonesAt(0, 0, 0, 7, 7, 0, 1, 7);
        for (int column = 0; column < 8; column++) {
            q.setWall(column, 4, true);
        }
        Check.equal("a wall along the whole row", q.distance(0, 1), 100);
        Check.equal("and from a column's end to the next one", q.distance(2, 3), 100);
        Check.equal("on the one side of it", q.distance(0, 2), 7);
    }

    private static void termsNoWay() {
        Check.sentence("Terms", "it is 100 if there is no way");
        DeskPlanner corner = zonesAt(7, 7, 0, 0);
        corner.setWall(6, 7, true);
        Check.equal("half shut in", corner.distance(0, 1), 14);
        corner.setWall(7, 6, true);
        Check.equal("shut in at the far corner", corner.distance(0, 1), 100);
        Check.equal("the other way", corner.distance(1, 0), 100);
        Check.equal("tie times no way", costOfTie(corner), 900);
        corner.setWall(6, 7, false);
        Check.equal("opened", corner.distance(1, 0), 14);
        DeskPlanner beside = zonesAt(0, 0, 1, 0);
        beside.setWall(0, 1, true);
        beside.setWall(1, 1, true);
        beside.setWall(2, 0, true);
        Check.equal("shut in together", beside.distance(0, 1), 1);
    }

    private static int costOfTie(DeskPlanner p) {
        Offices.addTeams(p, 2);
        p.setTie(0, 1, 9);
        Offices.lay(p, 0, 1);
        return p.cost();
    }

    private static void termsLeastNumberOfSteps() {
        Check.sentence("Terms",
            "The distance of two squares without walls is the least number of steps from the one to the other");
        DeskPlanner p = zonesAt(0, 0, 1, 0, 2, 0, 0, 1);
        Check.equal("beside in the row", p.distance(0, 1), 1);
        Check.equal("beside in the column", p.distance(3, 0), 1);
        Check.equal("a zone on the way is no wall", p.distance(0, 2), 2);
        DeskPlanner q = zonesAt(0, 3, 2, 3);
        for (int row = 1; row < 8; row++) {
            q.setWall(1, row, true);
        }
        Check.equal("the long way round the end of a wall", q.distance(0, 1), 8);
        q.setWall(1, 6, false);
        Check.equal("the less long one of two", q.distance(0, 1), 8);
        q.setWall(1, 5, false);
        Check.equal("the shorter one of two", q.distance(0, 1), 6);
        Check.equal("from the other to the one", q.distance(1, 0), 6);
        DeskPlanner snake = zonesAt(0, 0, 0, 7);
        for (int row = 1; row < 7; row += 2) {
            for (int column = 0; column < 8; column++) {
                snake.setWall(column, row, column != (row % 4 == 1 ? 7 : 0));
            }
        }
        Check.equal("to and fro through the whole floor", snake.distance(0, 1), 35);
    }

    private static void termsAtMostSevenZones() {
        Check.sentence("Terms", "Zones are numbered from 0 on; there are at most 7");
        DeskPlanner p = new DeskPlanner();
        for (int zone = 0; zone < 7; zone++) {
            Check.equal("zone " + zone, p.addZone(7 - zone, zone, 60 - zone), zone);
        }
        for (int zone = 0; zone < 7; zone++) {
            Check.equal("desks of zone " + zone, p.free(zone, 0), 60 - zone);
            Check.equal("way of zone " + zone, p.distance(0, zone), 2 * zone);
        }
        Check.badState("eighth", () -> p.addZone(0, 0, 1));
        Check.equal("zones", p.zones(), 7);
        Check.equal("last desks", p.free(6, 4), 54);
    }

    private static void termsSquareOfItsOwn() {
        Check.sentence("Terms",
            "A zone is at a square of its own without a wall, and has 1 to 60 desks");
        DeskPlanner p = zonesAt(0, 0, 7, 7);
        p.setWall(0, 7, true);
        Check.badState("at the first zone", () -> p.addZone(0, 0, 5));
        Check.badState("at the last zone", () -> p.addZone(7, 7, 5));
        Check.badState("at a wall", () -> p.addZone(0, 7, 5));
        Check.badState("no wall at the first zone", () -> p.setWall(0, 0, true));
        Check.badState("no wall at the last zone", () -> p.setWall(7, 7, true));
        Check.equal("where column and row are exchanged", p.addZone(7, 0, 1), 2);
        Check.equal("as few desks as may be", p.free(2, 0), 1);
        Check.equal("as many desks as may be", p.addZone(1, 0, 60), 3);
        Check.equal("all of them", p.free(3, 0), 60);
    }

    private static void promise1NewObject() {
        Check.sentence("Promise 1", "A floor without walls, zones and teams");
        DeskPlanner p = new DeskPlanner();
        Check.equal("zones", p.zones(), 0);
        Check.equal("teams", p.teams(), 0);
        Check.equal("walls", countWalls(p), 0);
        Check.outOfBounds("no zone 0", () -> p.teamIn(0));
        Check.outOfBounds("no team 0", () -> p.zoneOf(0));
        DeskPlanner busy = Offices.busy();
        Check.equal("zones of another one", busy.zones(), 4);
        Check.equal("nothing goes from one to another", Everything.of(new DeskPlanner()),
            Everything.of(p));
    }

    private static void promise1RememberedPlacement() {
        Check.sentence("Promise 1", "the remembered placement has no teams");
        DeskPlanner p = new DeskPlanner();
        Check.equal("moves of nobody", p.moves(), 0);
        Check.equal("circles of nobody", p.circles(), 0);
        Check.equal("recall of nobody", p.recall(), 0);
        DeskPlanner q = Offices.full();
        Check.equal("all are to go", q.moves(), 7);
        Check.equal("without a circle", q.circles(), 0);
        Check.equal("all go", q.recall(), 7);
        Check.equal("into none", Offices.placement(q), "-1 -1 -1 -1 -1 -1 -1");
    }

    private static void promise2NoSuchSquare() {
        Check.sentence("Promise 2", "Throws IndexOutOfBoundsException if there is no such square");
        for (int n : OFF_THE_FLOOR) {
            for (int on = 0; on < 8; on += 7) {
                int other = on;
                Refused.outOfBounds("column " + n + " row " + on, FloorBoundsTest::walled,
                    p -> p.setWall(n, other, true));
                Refused.outOfBounds("column " + on + " row " + n, FloorBoundsTest::walled,
                    p -> p.setWall(other, n, false));
            }
            Refused.outOfBounds("column and row " + n, FloorBoundsTest::walled,
                p -> p.setWall(n, n, true));
        }
        DeskPlanner p = walled();
        Check.equal("the last square", p.setWall(7, 7, true), false);
        Check.equal("the first one", p.setWall(0, 0, false), true);
        Check.outOfBounds("ahead of the zone at 0 1", () -> p.setWall(8, 0, true));
        Check.outOfBounds("ahead of the zone at 7 1", () -> p.setWall(-1, 2, true));
    }

    /** Walls and zones where a number off the floor would lead to, if rows were counted through. */
    private static DeskPlanner walled() {
        DeskPlanner p = zonesAt(0, 1, 7, 1, 0, 7, 7, 0);
        p.setWall(0, 0, true);
        p.setWall(7, 6, true);
        p.setWall(1, 0, true);
        return p;
    }

    private static void promise2ZoneAtTheSquare() {
        Check.sentence("Promise 2",
            "Throws IllegalStateException if there is a zone at the square");
        for (int zone = 0; zone < 7; zone++) {
            int column = zone % 4 * 2;
            int row = zone / 4 * 2;
            Refused.badState("a wall at zone " + zone, Offices::full,
                p -> p.setWall(column, row, true));
            Refused.badState("none at zone " + zone, Offices::full,
                p -> p.setWall(column, row, false));
            Check.equal("beside zone " + zone, Offices.full().setWall(column, row + 1, true), false);
        }
    }

    private static void promise2WhetherThereWasOne() {
        Check.sentence("Promise 2", "Returns whether there was one");
        DeskPlanner p = zonesAt(0, 0, 2, 0);
        Check.equal("none away", p.setWall(1, 0, false), false);
        Check.equal("none, then one", p.setWall(1, 0, true), false);
        Check.equal("one again", p.setWall(1, 0, true), true);
        Check.equal("still one", p.distance(0, 1), 4);
        Check.equal("one away", p.setWall(1, 0, false), true);
        Check.equal("away again", p.setWall(1, 0, false), false);
        Check.equal("still none", p.distance(0, 1), 2);
    }

    private static void promise3NoSuchSquare() {
        Check.sentence("Promise 3", "Throws IndexOutOfBoundsException if there is no such square");
        for (int n : OFF_THE_FLOOR) {
            Refused.outOfBounds("column " + n, FloorBoundsTest::walled, p -> p.addZone(n, 0, 5));
            Refused.outOfBounds("row " + n, FloorBoundsTest::walled, p -> p.addZone(0, n, 5));
            Refused.outOfBounds("ahead of the desks, column " + n, FloorBoundsTest::walled,
                p -> p.addZone(n, 7, 0));
            Refused.outOfBounds("ahead of the desks, row " + n, FloorBoundsTest::walled,
                p -> p.addZone(7, n, 61));
            Refused.outOfBounds("ahead of seven zones, column " + n, Offices::full,
                p -> p.addZone(n, 0, 5));
            Refused.outOfBounds("ahead of all, row " + n, Offices::full,
                p -> p.addZone(0, n, 0));
        }
        Check.equal("the last square", walled().addZone(7, 7, 5), 4);
    }

    private static void promise3DesksOutOfRange() {
        Check.sentence("Promise 3", "Throws IllegalArgumentException if desks is out of range");
        for (int n : NO_DESKS) {
            Refused.badArgument("desks " + n, Offices::busy, p -> p.addZone(5, 5, n));
            Refused.badArgument("ahead of a zone there, " + n, Offices::busy,
                p -> p.addZone(0, 0, n));
            Refused.badArgument("ahead of a wall there, " + n, Offices::busy,
                p -> p.addZone(7, 7, n));
            Refused.badArgument("ahead of seven zones, " + n, Offices::full,
                p -> p.addZone(5, 5, n));
        }
        DeskPlanner p = Offices.busy();
        Check.equal("1", p.addZone(5, 5, 1), 4);
        Check.equal("60", p.addZone(5, 6, 60), 5);
        Check.equal("1 it is", p.free(4, 0), 1);
        Check.equal("60 it is", p.free(5, 0), 60);
    }

    private static void promise3SevenZones() {
        Check.sentence("Promise 3", "Throws IllegalStateException if there are 7 zones");
        Refused.badState("eighth", Offices::full, p -> p.addZone(7, 7, 5));
        Refused.badState("eighth at a zone", Offices::full, p -> p.addZone(0, 0, 5));
        DeskPlanner p = Offices.withZones(5, 5, 5, 5, 5, 5);
        Check.equal("seventh", p.addZone(7, 7, 5), 6);
        Check.badState("eighth, then", () -> p.addZone(7, 6, 5));
        Check.badState("and again", () -> p.addZone(7, 6, 5));
    }

    private static void promise3WallOrZone() {
        Check.sentence("Promise 3", "or the square has a wall or a zone");
        Refused.badState("a wall", Offices::busy, p -> p.addZone(7, 7, 5));
        Refused.badState("the first zone", Offices::busy, p -> p.addZone(0, 0, 5));
        Refused.badState("the last zone", Offices::busy, p -> p.addZone(6, 0, 5));
        DeskPlanner p = Offices.busy();
        p.setWall(7, 7, false);
        Check.equal("no wall any more", p.addZone(7, 7, 5), 4);
    }

    private static void promise3ReturnsItsNumber() {
        Check.sentence("Promise 3", "Returns its number");
        DeskPlanner p = new DeskPlanner();
        Check.equal("the first is 0", p.addZone(7, 7, 60), 0);
        Check.badState("a refused one takes no number", () -> p.addZone(7, 7, 60));
        Check.badArgument("nor this one", () -> p.addZone(7, 6, 61));
        Check.equal("the second is 1", p.addZone(7, 6, 60), 1);
    }

    private static void promise4NoSuchZone() {
        Check.sentence("Promise 4", "Throws IndexOutOfBoundsException if there is no such zone");
        int[] zones = {-1, 4, 7, Integer.MIN_VALUE, Integer.MAX_VALUE};
        for (int n : zones) {
            Refused.outOfBounds("zone " + n, Offices::busy, p -> p.setDesks(n, 5));
            Refused.outOfBounds("ahead of the desks, zone " + n, Offices::busy,
                p -> p.setDesks(n, 0));
        }
        Refused.outOfBounds("zone 7 of 7", Offices::full, p -> p.setDesks(7, 5));
        Refused.outOfBounds("no zone", DeskPlanner::new, p -> p.setDesks(0, 5));
        Check.equal("the first", Offices.full().setDesks(0, 9), 5);
        Check.equal("the last of 7", Offices.full().setDesks(6, 9), 5);
    }

    private static void promise4DesksOutOfRange() {
        Check.sentence("Promise 4", "Throws IllegalArgumentException if desks is out of range");
        for (int n : NO_DESKS) {
            Refused.badArgument("desks " + n, Offices::busy, p -> p.setDesks(3, n));
            Refused.badArgument("ahead of the team there, " + n, Offices::busy,
                p -> p.setDesks(2, n));
        }
        DeskPlanner p = Offices.busy();
        Check.equal("1", p.setDesks(3, 1), 8);
        Check.equal("60", p.setDesks(3, 60), 1);
        Check.equal("it is 60", p.setDesks(3, 60), 60);
    }

    private static void promise4TeamWouldNotFit() {
        Check.sentence("Promise 4",
            "Throws IllegalStateException if a team is in it that would not fit any more");
        Refused.badState("one less than the need", Offices::busy, p -> p.setDesks(2, 6));
        Refused.badState("1", Offices::busy, p -> p.setDesks(2, 1));
        DeskPlanner p = Offices.busy();
        Check.equal("as many as the need", p.setDesks(0, 4), 5);
        Check.badState("then one less", () -> p.setDesks(0, 3));
        Check.equal("the same again", p.setDesks(0, 4), 4);
        p.place(1, -1);
        Check.equal("when it has gone", p.setDesks(0, 3), 4);
        DeskPlanner q = Offices.withZones(60, 60);
        Offices.addTeams(q, 2);
        q.setPresent(0, 4, 60);
        q.place(0, 1);
        Check.badState("59 for 60", () -> q.setDesks(1, 59));
        Check.equal("60 for 60", q.setDesks(1, 60), 60);
        Check.equal("the zone without a team", q.setDesks(0, 1), 60);
        for (int day = 0; day < 5; day++) {
            q.setPresent(1, day, 0);
        }
        q.place(1, 0);
        Check.equal("1 for nobody", q.setDesks(0, 1), 1);
    }

    private static void promise4ReturnsTheNumberBefore() {
        Check.sentence("Promise 4", "Returns the number before");
        DeskPlanner p = Offices.withZones(60, 1);
        Check.equal("60", p.setDesks(0, 1), 60);
        Check.equal("1", p.setDesks(0, 1), 1);
        Check.equal("1 of the other", p.setDesks(1, 60), 1);
    }

    private static void promise15Zones() {
        Check.sentence("Promise 15", "Returns how many zones there are");
        DeskPlanner p = new DeskPlanner();
        Check.equal("no zone", p.zones(), 0);
        for (int zone = 0; zone < 7; zone++) {
            p.addZone(zone, zone, 1);
            Check.equal("with zone " + zone, p.zones(), zone + 1);
            int there = zone;
            Check.badState("refused at " + zone, () -> p.addZone(there, there, 1));
            Check.equal("after that", p.zones(), zone + 1);
        }
    }

    private static void promise21NoSuchZoneOrDay() {
        Check.sentence("Promise 21",
            "Throws IndexOutOfBoundsException if there is no such zone or day");
        int[] zones = {-1, 4, 7, Integer.MIN_VALUE, Integer.MAX_VALUE};
        for (int n : zones) {
            Refused.outOfBounds("zone " + n, Offices::busy, p -> p.free(n, 0));
            Refused.outOfBounds("zone " + n + " and day", Offices::busy, p -> p.free(n, 5));
        }
        int[] days = {-1, 5, Integer.MIN_VALUE, Integer.MAX_VALUE};
        for (int n : days) {
            Refused.outOfBounds("day " + n, Offices::busy, p -> p.free(0, n));
            Refused.outOfBounds("day " + n + " of no team", Offices::busy, p -> p.free(3, n));
        }
        Refused.outOfBounds("zone 7 of 7", Offices::full, p -> p.free(7, 0));
        Refused.outOfBounds("no zone", DeskPlanner::new, p -> p.free(0, 0));
    }

    private static void promise21DesksLessThePeople() {
        Check.sentence("Promise 21",
            "Returns the desks less the people of its team that are present");
        DeskPlanner p = Offices.withZones(60, 60, 1, 1, 1, 1, 60);
        Offices.addTeams(p, 2);
        for (int day = 0; day < 5; day++) {
            p.setPresent(1, day, 60 - day);
            Check.equal("a zone without a team, day " + day, p.free(6, day), 60);
        }
        p.setPresent(1, 4, 0);
        p.place(1, 6);
        Check.equal("full on the first day", p.free(6, 0), 0);
        Check.equal("nearly so on the next", p.free(6, 1), 1);
        Check.equal("and on the one before the last", p.free(6, 3), 3);
        Check.equal("empty on the last day", p.free(6, 4), 60);
        Check.equal("another zone", p.free(0, 0), 60);
        p.place(0, 0);
        Check.equal("with another team", p.free(0, 0), 59);
        p.place(1, -1);
        Check.equal("when it has gone", p.free(6, 0), 60);
    }

    private static void promise22NoSuchZone() {
        Check.sentence("Promise 22", "Throws IndexOutOfBoundsException if there is no such zone");
        int[] zones = {-1, 4, 7, Integer.MIN_VALUE, Integer.MAX_VALUE};
        for (int n : zones) {
            Refused.outOfBounds("zone " + n, Offices::busy, p -> p.distance(n, 0));
            Refused.outOfBounds("other " + n, Offices::busy, p -> p.distance(3, n));
            Refused.outOfBounds("both " + n, Offices::busy, p -> p.distance(n, n));
        }
        Refused.outOfBounds("zone 7 of 7", Offices::full, p -> p.distance(7, 0));
        Refused.outOfBounds("other 7 of 7", Offices::full, p -> p.distance(0, 7));
        Refused.outOfBounds("no zone", DeskPlanner::new, p -> p.distance(0, 0));
    }

    private static void promise22AnotherOneOrTheSame() {
        Check.sentence("Promise 22", "other: another one, or the same");
        DeskPlanner p = Offices.full();
        for (int zone = 0; zone < 7; zone++) {
            Check.equal("to itself " + zone, p.distance(zone, zone), 0);
        }
        Check.equal("the last two", p.distance(6, 5), 2);
        Check.equal("the first and the last", p.distance(0, 6), 6);
        Check.equal("and back", p.distance(6, 0), 6);
        p.setWall(0, 1, true);
        p.setWall(1, 0, true);
        Check.equal("shut in, to itself", p.distance(0, 0), 0);
        Check.equal("shut in, to another", p.distance(0, 6), 100);
        Check.equal("and back again", p.distance(6, 0), 100);
    }

    private static void promise22ReturnsTheDistance() {
        Check.sentence("Promise 22", "Returns the distance");
        DeskPlanner p = zonesAt(0, 0, 7, 7, 7, 0);
        Check.equal("the farthest without walls", p.distance(0, 1), 14);
        p.setWall(6, 7, true);
        p.setWall(7, 6, true);
        Check.equal("walls that were built since", p.distance(0, 1), 100);
        Check.equal("not between these", p.distance(0, 2), 7);
        p.addZone(0, 7, 5);
        Check.equal("a zone that was added since", p.distance(3, 1), 100);
        Check.equal("and another way", p.distance(3, 0), 7);
        p.setWall(6, 7, false);
        Check.equal("a wall that is gone", p.distance(3, 1), 7);
    }

    /** A zone with 5 desks at each column and row. */
    private static DeskPlanner zonesAt(int... squares) {
        DeskPlanner p = new DeskPlanner();
        for (int i = 0; i < squares.length; i += 2) {
            p.addZone(squares[i], squares[i + 1], 5);
        }
        return p;
    }
}
