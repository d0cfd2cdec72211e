/** Calls of a DeskPlanner by name, answered as PlannerModel answers them. */
final class PlannerCalls {
    private PlannerCalls() {
    }

    /** The number (a boolean counts 1 or 0), or the name of the very class that is thrown. */
    static Object answer(DeskPlanner p, String call, int... a) {
        try {
            return number(p, call, a);
        } catch (RuntimeException e) {
            return e.getClass().getSimpleName();
        }
    }

    private static int number(DeskPlanner p, String call, int... a) {
        switch (call) {
            case "setWall": return p.setWall(a[0], a[1], a[2] != 0) ? 1 : 0;
            case "addZone": return p.addZone(a[0], a[1], a[2]);
            case "setDesks": return p.setDesks(a[0], a[1]);
            case "addTeam": return p.addTeam();
            case "setPresent": return p.setPresent(a[0], a[1], a[2]);
            case "setWish": return p.setWish(a[0], a[1], a[2]);
            case "setTie": return p.setTie(a[0], a[1], a[2]);
            case "place": return p.place(a[0], a[1]);
            case "placeByWishes": return p.placeByWishes();
            case "placeBest": return p.placeBest();
            case "search": return p.search(a[0], a[1]);
            case "remember": return p.remember();
            case "recall": return p.recall();
            case "zones": return p.zones();
            case "teams": return p.teams();
            case "need": return p.need(a[0]);
            case "share": return p.share(a[0]);
            case "zoneOf": return p.zoneOf(a[0]);
            case "teamIn": return p.teamIn(a[0]);
            case "free": return p.free(a[0], a[1]);
            case "distance": return p.distance(a[0], a[1]);
            case "wishCost": return p.wishCost();
            case "cost": return p.cost();
            case "leastWishCost": return p.leastWishCost();
            case "circles": return p.circles();
            case "moves": return p.moves();
            default: throw new UnsupportedOperationException(call);
        }
    }
}
