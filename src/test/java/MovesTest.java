/** Promises 26 and 27: circles and moves on the way to the remembered placement. */
public final class MovesTest {
    public static void main(String[] args) {
        circlesAndMoves();
        waysWithoutCircles();
        newTeams();
        Check.end("MovesTest");
    }

    private static void circlesAndMoves() {
        DeskPlanner p = Offices.withZones(5, 5, 5, 5, 5, 5, 5);
        Offices.addTeams(p, 7);
        Offices.lay(p, 0, 1, 2, 3, 4, 5, 6);
        Check.equal("nothing remembered: all out", p.moves(), 7);
        Check.equal("nothing remembered: no circle", p.circles(), 0);
        p.remember();
        way(p, 0, 0, "0 1 2 3 4 5 6", 0, 1, 2, 3, 4, 5, 6);
        way(p, 1, 3, "two", 1, 0, 2, 3, 4, 5, 6);
        way(p, 1, 3, "the last two", 0, 1, 2, 3, 4, 6, 5);
        way(p, 1, 4, "three", 1, 2, 0, 3, 4, 5, 6);
        way(p, 1, 4, "three the other way", 2, 0, 1, 3, 4, 5, 6);
        way(p, 2, 6, "two twos", 2, 3, 0, 1, 4, 5, 6);
        way(p, 3, 9, "three twos", 6, 5, 4, 3, 2, 1, 0);
        way(p, 2, 9, "three and four", 2, 3, 4, 5, 0, 6, 1);
        way(p, 1, 8, "seven", 1, 2, 3, 4, 5, 6, 0);
        way(p, 1, 8, "seven across", 3, 4, 5, 6, 0, 1, 2);
    }

    private static void way(DeskPlanner p, int circles, int moves, String what, int... zones) {
        Offices.layAnew(p, zones);
        Check.equal("circles, " + what, p.circles(), circles);
        Check.equal("moves, " + what, p.moves(), moves);
        Check.equal("nothing changed, " + what, p.zoneOf(0), zones[0]);
    }

    private static void waysWithoutCircles() {
        DeskPlanner p = Offices.withZones(5, 5, 5, 5, 5);
        Offices.addTeams(p, 4);
        Offices.lay(p, 0, 1, 2, -1);
        p.remember();
        way(p, 0, 1, "one elsewhere", 4, 1, 2, -1);
        way(p, 0, 2, "a chain", 1, 4, 2, -1);
        way(p, 0, 3, "a long chain", 1, 2, 4, -1);
        way(p, 0, 1, "one comes in", -1, 1, 2, -1);
        way(p, 0, 1, "one goes out", 0, 1, 2, 3);
        way(p, 0, 2, "one goes out for another", -1, 1, 2, 0);
        way(p, 0, 2, "a chain from outside", -1, 0, 2, -1);
        way(p, 0, 4, "a chain from outside to outside", -1, 0, 1, 2);
        way(p, 1, 4, "a circle and one out", 1, 0, 2, 3);
        way(p, 1, 4, "a circle and one in", 1, 0, -1, -1);
        way(p, 0, 3, "all in", -1, -1, -1, -1);
        p.setDesks(0, 1);
        p.setPresent(0, 0, 2);
        way(p, 1, 3, "where it does not fit any more", 1, 0, 2, -1);
    }

    private static void newTeams() {
        DeskPlanner p = Offices.withZones(5, 5, 5);
        Offices.addTeams(p, 2);
        Offices.lay(p, 0, 1);
        p.remember();
        p.addTeam();
        Check.equal("moves with a new team in none", p.moves(), 0);
        p.place(2, 2);
        Check.equal("moves with a new team in a zone", p.moves(), 1);
        Offices.layAnew(p, 1, 2, 0);
        Check.equal("circles with a new team in the way", p.circles(), 0);
        Check.equal("moves with a new team in the way", p.moves(), 3);
        Offices.layAnew(p, 1, 0, 2);
        Check.equal("circles with a new team beside", p.circles(), 1);
        Check.equal("moves with a new team beside", p.moves(), 4);
        Check.equal("recall's count goes with it", p.recall(), 3);
    }
}
