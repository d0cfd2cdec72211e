/** Objects to test with. */
final class Offices {
    private Offices() {
    }

    /** As many zones as there are desk numbers, in the row 0 at every second column, then in row 2. */
    static DeskPlanner withZones(int... desks) {
        DeskPlanner planner = new DeskPlanner();
        for (int zone = 0; zone < desks.length; zone++) {
            planner.addZone(zone % 4 * 2, zone / 4 * 2, desks[zone]);
        }
        return planner;
    }

    static void addTeams(DeskPlanner planner, int count) {
        for (int i = 0; i < count; i++) {
            planner.addTeam();
        }
    }

    /** Lays the teams into the zones one by one; all of them must be in none. */
    static void lay(DeskPlanner planner, int... zones) {
        for (int team = 0; team < zones.length; team++) {
            planner.place(team, zones[team]);
        }
    }

    /** Lays them wherever they are now. */
    static void layAnew(DeskPlanner planner, int... zones) {
        for (int team = 0; team < zones.length; team++) {
            planner.place(team, -1);
        }
        lay(planner, zones);
    }

    static void wish(DeskPlanner planner, int team, int... costs) {
        for (int zone = 0; zone < costs.length; zone++) {
            planner.setWish(team, zone, costs[zone]);
        }
    }

    /** The zones of all teams, as "0 2 -1". */
    static String placement(DeskPlanner planner) {
        StringBuilder text = new StringBuilder();
        for (int team = 0; team < planner.teams(); team++) {
            text.append(team == 0 ? "" : " ").append(planner.zoneOf(team));
        }
        return text.toString();
    }
}
