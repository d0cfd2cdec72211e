/** Promises 5 to 8 and 16 to 18: teams, who is present, wishes, ties, need and share. */
public final class TeamsTest {
    public static void main(String[] args) {
        addTeam();
        setPresent();
        setPresentOfAPlacedTeam();
        need();
        share();
        setWish();
        setTie();
        Check.end("TeamsTest");
    }

    private static void addTeam() {
        DeskPlanner p = Offices.withZones(5);
        for (int team = 0; team < 7; team++) {
            Check.equal("teams before", p.teams(), team);
            Check.equal("addTeam", p.addTeam(), team);
            Check.equal("in no zone", p.zoneOf(team), -1);
            Check.equal("need at first", p.need(team), 1);
            Check.equal("share at first", p.share(team), 100);
        }
        Check.badState("eighth team", p::addTeam);
        Check.equal("teams", p.teams(), 7);
        for (int day = 0; day < 5; day++) {
            Check.equal("present at first", p.setPresent(6, day, 1), 1);
        }
    }

    private static void setPresent() {
        DeskPlanner p = new DeskPlanner();
        Offices.addTeams(p, 2);
        Check.equal("setPresent", p.setPresent(1, 3, 60), 1);
        Check.equal("setPresent to none", p.setPresent(1, 3, 0), 60);
        Check.equal("setPresent after none", p.setPresent(1, 3, 7), 0);
        Check.equal("another day", p.setPresent(1, 4, 7), 1);
        Check.equal("another team", p.setPresent(0, 3, 7), 1);
        int[] teams = {-1, 2, 7, Integer.MIN_VALUE, Integer.MAX_VALUE};
        for (int n : teams) {
            Check.outOfBounds("setPresent team " + n, () -> p.setPresent(n, 0, 61));
        }
        int[] days = {-1, 5, Integer.MIN_VALUE, Integer.MAX_VALUE};
        for (int n : days) {
            Check.outOfBounds("setPresent day " + n, () -> p.setPresent(0, n, -1));
        }
        int[] people = {-1, 61, Integer.MIN_VALUE, Integer.MAX_VALUE};
        for (int n : people) {
            Check.badArgument("setPresent people " + n, () -> p.setPresent(0, 3, n));
        }
        Check.equal("nothing changed", p.setPresent(0, 3, 1), 7);
    }

    private static void setPresentOfAPlacedTeam() {
        DeskPlanner p = Offices.withZones(5, 2);
        Offices.addTeams(p, 2);
        p.place(0, 0);
        Check.equal("as many as desks", p.setPresent(0, 1, 5), 1);
        Check.badState("more than desks", () -> p.setPresent(0, 2, 6));
        Check.badState("more than desks, same day", () -> p.setPresent(0, 1, 6));
        Check.badArgument("out of range ahead of that", () -> p.setPresent(0, 1, 61));
        Check.equal("need after throws", p.need(0), 5);
        Check.equal("present after throws", p.setPresent(0, 2, 0), 1);
        Check.equal("a team in no zone", p.setPresent(1, 2, 60), 1);
        p.place(0, -1);
        Check.equal("a team that has gone", p.setPresent(0, 1, 6), 5);
    }

    private static void need() {
        DeskPlanner p = new DeskPlanner();
        Offices.addTeams(p, 2);
        for (int day = 0; day < 5; day++) {
            p.setPresent(0, day, 10 + day);
            Check.equal("need rises", p.need(0), 10 + day);
        }
        p.setPresent(0, 4, 3);
        Check.equal("need falls to the next one", p.need(0), 13);
        p.setPresent(0, 0, 20);
        Check.equal("need on the first day", p.need(0), 20);
        Check.equal("need of the other", p.need(1), 1);
        setAll(p, 1, 0, 0, 0, 0, 0);
        Check.equal("need of nobody", p.need(1), 0);
        int[] teams = {-1, 2, Integer.MIN_VALUE, Integer.MAX_VALUE};
        for (int n : teams) {
            Check.outOfBounds("need " + n, () -> p.need(n));
            Check.outOfBounds("share " + n, () -> p.share(n));
        }
    }

    private static void share() {
        DeskPlanner p = new DeskPlanner();
        p.addTeam();
        setAll(p, 0, 60, 60, 60, 60, 60);
        Check.equal("all on all days", p.share(0), 100);
        setAll(p, 0, 0, 0, 0, 0, 60);
        Check.equal("one day", p.share(0), 20);
        setAll(p, 0, 3, 2, 1, 1, 1);
        Check.equal("8 of 15, down", p.share(0), 53);
        setAll(p, 0, 3, 3, 3, 3, 2);
        Check.equal("14 of 15, down", p.share(0), 93);
        setAll(p, 0, 60, 1, 1, 1, 1);
        Check.equal("64 of 300, down", p.share(0), 21);
        setAll(p, 0, 0, 0, 0, 0, 0);
        Check.equal("nobody", p.share(0), 100);
        setAll(p, 0, 0, 1, 0, 0, 0);
        Check.equal("one on one day", p.share(0), 20);
    }

    private static void setAll(DeskPlanner p, int team, int... people) {
        for (int day = 0; day < 5; day++) {
            p.setPresent(team, day, people[day]);
        }
    }

    private static void setWish() {
        DeskPlanner p = Offices.withZones(5, 5);
        Offices.addTeams(p, 3);
        Check.equal("setWish", p.setWish(2, 1, 99), 0);
        Check.equal("setWish again", p.setWish(2, 1, 0), 99);
        Check.equal("setWish once more", p.setWish(2, 1, 5), 0);
        Check.equal("another zone", p.setWish(2, 0, 6), 0);
        Check.equal("another team", p.setWish(1, 1, 7), 0);
        int[] teams = {-1, 3, Integer.MIN_VALUE, Integer.MAX_VALUE};
        for (int n : teams) {
            Check.outOfBounds("setWish team " + n, () -> p.setWish(n, 0, 100));
        }
        int[] zones = {-1, 2, Integer.MIN_VALUE, Integer.MAX_VALUE};
        for (int n : zones) {
            Check.outOfBounds("setWish zone " + n, () -> p.setWish(0, n, -1));
        }
        int[] costs = {-1, 100, Integer.MIN_VALUE, Integer.MAX_VALUE};
        for (int n : costs) {
            Check.badArgument("setWish cost " + n, () -> p.setWish(2, 1, n));
        }
        Check.equal("nothing changed", p.setWish(2, 1, 5), 5);
        p.addZone(7, 7, 5);
        Check.equal("a zone added since", p.setWish(2, 2, 1), 0);
    }

    private static void setTie() {
        DeskPlanner p = new DeskPlanner();
        Offices.addTeams(p, 3);
        Check.equal("setTie", p.setTie(0, 2, 9), 0);
        Check.equal("from the other side", p.setTie(2, 0, 4), 9);
        Check.equal("and back", p.setTie(0, 2, 0), 4);
        Check.equal("another pair", p.setTie(1, 2, 3), 0);
        int[] teams = {-1, 3, Integer.MIN_VALUE, Integer.MAX_VALUE};
        for (int n : teams) {
            Check.outOfBounds("setTie team " + n, () -> p.setTie(n, 0, 10));
            Check.outOfBounds("setTie other " + n, () -> p.setTie(0, n, -1));
            Check.outOfBounds("setTie both " + n, () -> p.setTie(n, n, 1));
        }
        int[] ties = {-1, 10, Integer.MIN_VALUE, Integer.MAX_VALUE};
        for (int n : ties) {
            Check.badArgument("setTie tie " + n, () -> p.setTie(1, 2, n));
            Check.badArgument("setTie the same and tie " + n, () -> p.setTie(1, 1, n));
        }
        Check.badArgument("setTie the same", () -> p.setTie(1, 1, 1));
        Check.equal("nothing changed", p.setTie(2, 1, 3), 3);
    }
}
