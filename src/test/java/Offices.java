/** Objects to test with. */
final class Offices {
    private Offices() {
    }

    /** As many zones as there are desk numbers, in the row 0 at every second column, then in row 2. */
    static DeskPlanner withZones(int... desks) {
        DeskPlanner planner = new DeskPlanner();
        for (int zone = 0; zone < desks.length; zone++) {
            planner.addZone(zone % 4 * 2, zone / 4 * 2, desks[zone]);
        }
        return planner;
    }

    /** As many zones and teams as there may be, the team 0 in the zone 0, and so on. */
    static DeskPlanner full() {
        DeskPlanner planner = withZones(5, 5, 5, 5, 5, 5, 5);
        addTeams(planner, 7);
        lay(planner, 0, 1, 2, 3, 4, 5, 6);
        return planner;
    }

    /**
     * Something of everything: walls, four zones, people, wishes, ties, the teams 0 and 1 in the
     * zones 2 and 0, the team 2 in none, and another placement remembered. The team 0 needs all of
     * its 7 desks, the team 1 one less than its 5.
     */
    static DeskPlanner busy() {
        DeskPlanner planner = withZones(5, 6, 7, 8);
        addTeams(planner, 3);
        planner.setWall(3, 0, true);
        planner.setWall(7, 7, true);
        for (int team = 0; team < 3; team++) {
            wish(planner, team, 10 + team, 20 + team, 40 - team, 30 - team);
            planner.setPresent(team, team + 1, 2);
            planner.setPresent(team, team, 5 - team);
        }
        planner.setTie(0, 1, 3);
        planner.setTie(2, 0, 4);
        lay(planner, 1, 2, -1);
        planner.remember();
        planner.place(1, 0);
        planner.place(0, 2);
        planner.setPresent(0, 4, 7);
        planner.setDesks(1, 9);
        return planner;
    }

    static void addTeams(DeskPlanner planner, int count) {
        for (int i = 0; i < count; i++) {
            planner.addTeam();
        }
    }

    /** Lays the teams into the zones one by one; all of them must be in none. */
    static void lay(DeskPlanner planner, int... zones) {
        for (int team = 0; team < zones.length; team++) {
            planner.place(team, zones[team]);
        }
    }

    /** Lays them wherever they are now. */
    static void layAnew(DeskPlanner planner, int... zones) {
        for (int team = 0; team < zones.length; team++) {
            planner.place(team, -1);
        }
        lay(planner, zones);
    }

    static void wish(DeskPlanner planner, int team, int... costs) {
        for (int zone = 0; zone < costs.length; zone++) {
            planner.setWish(team, zone, costs[zone]);
        }
    }

    /** The zones of all teams, as "0 2 -1". */
    static String placement(DeskPlanner planner) {
        StringBuilder text = new StringBuilder();
        for (int team = 0; team < planner.teams(); team++) {
            text.append(team == 0 ? "" : " ").append(planner.zoneOf(team));
        }
        return text.toString();
    }
}
