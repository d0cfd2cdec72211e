/** Promises 1 to 4, 15, 21 and 22: a new object, walls, zones, desks, distances. */
public final class FloorTest {
    public static void main(String[] args) {
        newObject();
        setWall();
        addZone();
        mostZones();
        setDesks();
        free();
        distance();
        distanceOfTheWholeFloor();
        Check.end("FloorTest");
    }

    private static void newObject() {
        DeskPlanner p = new DeskPlanner();
        Check.equal("new zones", p.zones(), 0);
        Check.equal("new teams", p.teams(), 0);
        Check.equal("new wishCost", p.wishCost(), 0);
        Check.equal("new cost", p.cost(), 0);
        Check.equal("new leastWishCost", p.leastWishCost(), 0);
        Check.equal("new circles", p.circles(), 0);
        Check.equal("new moves", p.moves(), 0);
        for (int column = 0; column < 8; column++) {
            for (int row = 0; row < 8; row++) {
                Check.equal("new wall", p.setWall(column, row, false), false);
            }
        }
        DeskPlanner q = Offices.withZones(5);
        q.addTeam();
        q.place(0, 0);
        Check.equal("recall of the first remembered placement", q.recall(), 1);
        Check.equal("it has no teams", q.zoneOf(0), -1);
        Check.equal("another object has its own", p.zones() + p.teams(), 0);
    }

    private static void setWall() {
        DeskPlanner p = new DeskPlanner();
        Check.equal("build", p.setWall(3, 4, true), false);
        Check.equal("build again", p.setWall(3, 4, true), true);
        Check.equal("remove", p.setWall(3, 4, false), true);
        Check.equal("remove again", p.setWall(3, 4, false), false);
        p.setWall(1, 0, true);
        Check.equal("column and row are not exchanged", p.setWall(0, 1, false), false);
        Check.equal("corner", p.setWall(0, 0, true), false);
        Check.equal("far corner", p.setWall(7, 7, true), false);
        Check.equal("far corner again", p.setWall(7, 7, true), true);
        int[] wrong = {-1, 8, 64, Integer.MIN_VALUE, Integer.MAX_VALUE};
        for (int n : wrong) {
            Check.outOfBounds("setWall column " + n, () -> p.setWall(n, 0, true));
            Check.outOfBounds("setWall row " + n, () -> p.setWall(0, n, true));
        }
        p.addZone(5, 5, 1);
        Check.badState("setWall at a zone", () -> p.setWall(5, 5, true));
        Check.badState("setWall away at a zone", () -> p.setWall(5, 5, false));
        Check.equal("beside the zone", p.setWall(5, 6, true), false);
    }

    private static void addZone() {
        DeskPlanner p = new DeskPlanner();
        Check.equal("first zone", p.addZone(0, 7, 1), 0);
        Check.equal("second zone", p.addZone(7, 0, 60), 1);
        Check.equal("zones", p.zones(), 2);
        Check.equal("its desks", p.setDesks(1, 30), 60);
        int[] wrong = {-1, 8, Integer.MIN_VALUE, Integer.MAX_VALUE};
        for (int n : wrong) {
            Check.outOfBounds("addZone column " + n, () -> p.addZone(n, 0, 0));
            Check.outOfBounds("addZone row " + n, () -> p.addZone(0, n, 61));
        }
        int[] desks = {0, 61, -1, Integer.MIN_VALUE, Integer.MAX_VALUE};
        for (int n : desks) {
            Check.badArgument("addZone desks " + n, () -> p.addZone(3, 3, n));
            Check.badArgument("addZone desks ahead of state " + n, () -> p.addZone(7, 0, n));
        }
        Check.badState("addZone at a zone", () -> p.addZone(7, 0, 5));
        p.setWall(2, 2, true);
        Check.badState("addZone at a wall", () -> p.addZone(2, 2, 5));
        Check.equal("zones after throws", p.zones(), 2);
        p.setWall(2, 2, false);
        Check.equal("addZone where a wall was", p.addZone(2, 2, 5), 2);
    }

    private static void mostZones() {
        DeskPlanner p = Offices.withZones(1, 2, 3, 4, 5, 6);
        Check.equal("seventh zone", p.addZone(7, 7, 7), 6);
        Check.badState("eighth zone", () -> p.addZone(0, 7, 8));
        Check.outOfBounds("eighth zone off the floor", () -> p.addZone(0, 8, 8));
        Check.badArgument("eighth zone without desks", () -> p.addZone(0, 7, 0));
        Check.equal("zones", p.zones(), 7);
        Check.equal("no zone there", p.setWall(0, 7, true), false);
        Check.equal("desks of the last", p.setDesks(6, 60), 7);
    }

    private static void setDesks() {
        DeskPlanner p = Offices.withZones(5, 6);
        Check.equal("setDesks", p.setDesks(1, 9), 6);
        Check.equal("setDesks least", p.setDesks(1, 1), 9);
        Check.equal("setDesks most", p.setDesks(1, 60), 1);
        Check.equal("the other zone", p.setDesks(0, 5), 5);
        int[] zones = {-1, 2, 7, Integer.MIN_VALUE, Integer.MAX_VALUE};
        for (int n : zones) {
            Check.outOfBounds("setDesks zone " + n, () -> p.setDesks(n, 0));
        }
        p.addTeam();
        p.setPresent(0, 2, 4);
        p.place(0, 0);
        int[] desks = {0, -1, 61, Integer.MIN_VALUE, Integer.MAX_VALUE};
        for (int n : desks) {
            Check.badArgument("setDesks desks " + n, () -> p.setDesks(0, n));
        }
        Check.badState("setDesks too few for its team", () -> p.setDesks(0, 3));
        Check.equal("nothing changed", p.free(0, 2), 1);
        Check.equal("setDesks just enough", p.setDesks(0, 4), 5);
        Check.equal("setDesks where the team is not", p.setDesks(1, 3), 60);
        p.place(0, -1);
        Check.equal("setDesks when it has gone", p.setDesks(0, 3), 4);
    }

    private static void free() {
        DeskPlanner p = Offices.withZones(5, 6);
        Check.equal("free without teams", p.free(1, 0), 6);
        Offices.addTeams(p, 2);
        p.setPresent(1, 0, 5);
        p.setPresent(1, 4, 0);
        p.place(1, 0);
        Check.equal("free on a full day", p.free(0, 0), 0);
        Check.equal("free on another day", p.free(0, 1), 4);
        Check.equal("free on an empty day", p.free(0, 4), 5);
        Check.equal("free in another zone", p.free(1, 0), 6);
        p.place(1, -1);
        Check.equal("free when it has gone", p.free(0, 0), 5);
        int[] zones = {-1, 2, Integer.MIN_VALUE, Integer.MAX_VALUE};
        for (int n : zones) {
            Check.outOfBounds("free zone " + n, () -> p.free(n, 0));
        }
        int[] days = {-1, 5, Integer.MIN_VALUE, Integer.MAX_VALUE};
        for (int n : days) {
            Check.outOfBounds("free day " + n, () -> p.free(0, n));
        }
    }

    private static void distance() {
        DeskPlanner p = new DeskPlanner();
        p.addZone(0, 0, 5);
        p.addZone(2, 0, 5);
        p.addZone(7, 7, 5);
        Check.equal("straight", p.distance(0, 1), 2);
        Check.equal("over the floor", p.distance(0, 2), 14);
        Check.equal("the same", p.distance(2, 2), 0);
        p.setWall(1, 0, true);
        Check.equal("round a wall", p.distance(0, 1), 4);
        Check.equal("and back", p.distance(1, 0), 4);
        p.setWall(0, 1, true);
        Check.equal("shut in", p.distance(0, 1), 100);
        Check.equal("shut in, from the other", p.distance(2, 0), 100);
        Check.equal("shut in, to itself", p.distance(0, 0), 0);
        Check.equal("the others", p.distance(1, 2), 12);
        p.addZone(1, 1, 5);
        Check.equal("no step across a corner", p.distance(0, 3), 100);
        p.setWall(0, 1, false);
        Check.equal("opened", p.distance(0, 3), 2);
        int[] zones = {-1, 4, Integer.MIN_VALUE, Integer.MAX_VALUE};
        for (int n : zones) {
            Check.outOfBounds("distance zone " + n, () -> p.distance(n, 0));
            Check.outOfBounds("distance other " + n, () -> p.distance(0, n));
        }
    }

    /** A way to and fro through all rows is the longest there is; none goes round the edge. */
    private static void distanceOfTheWholeFloor() {
        DeskPlanner p = new DeskPlanner();
        p.addZone(0, 0, 5);
        p.addZone(7, 6, 5);
        for (int row = 1; row < 7; row += 2) {
            int gap = row % 4 == 1 ? 7 : 0;
            for (int column = 0; column < 8; column++) {
                p.setWall(column, row, column != gap);
            }
        }
        p.addZone(0, 7, 5);
        Check.equal("to and fro", p.distance(0, 1), 27);
        Check.equal("and to the left again", p.distance(0, 2), 35);
        for (int column = 0; column < 8; column++) {
            Check.equal("shut off", p.setWall(column, 5, true), column != 7);
        }
        Check.equal("no way", p.distance(0, 2), 100);
        Check.equal("a way on this side", p.distance(1, 2), 8);
    }
}
