import java.util.ArrayList;
import java.util.HashMap;
import java.util.HashSet;
import java.util.List;
import java.util.Map;
import java.util.Set;

/**
 * The document's words once more, slow and in another way than the program: lists of placements,
 * ways by widening squares, nothing kept between calls. A placement is a list: team to zone.
 */
final class PlannerModel {
    private final Set<List<Integer>> walls = new HashSet<>();
    private final List<List<Integer>> squares = new ArrayList<>();
    private final List<Integer> desks = new ArrayList<>();
    private final List<List<Integer>> present = new ArrayList<>();
    private final Map<List<Integer>, Integer> wishes = new HashMap<>();
    private final Map<Set<Integer>, Integer> ties = new HashMap<>();
    private final List<Integer> placement = new ArrayList<>();
    private List<Integer> remembered = new ArrayList<>();

    /** What a call answers: its number, or the name of what it throws. */
    Object answer(String call, int... a) {
        switch (call) {
            case "setWall": return setWall(List.of(a[0], a[1]), a[2] != 0);
            case "addZone": return addZone(List.of(a[0], a[1]), a[2]);
            case "setDesks": return setDesks(a[0], a[1]);
            case "addTeam": return addTeam();
            case "setPresent": return setPresent(a[0], a[1], a[2]);
            case "setWish": return setWish(a[0], a[1], a[2]);
            case "setTie": return setTie(a[0], a[1], a[2]);
            case "place": return place(a[0], a[1]);
            case "placeByWishes": return layLeast(false);
            case "placeBest": return layLeast(true);
            case "search": return search(a[0], a[1]);
            case "remember": return remember();
            case "recall": return recall();
            case "zones": return squares.size();
            case "teams": return present.size();
            case "need": return team(a[0]) ? (Object) need(present.get(a[0])) : BOUNDS;
            case "share": return team(a[0]) ? (Object) share(a[0]) : BOUNDS;
            case "zoneOf": return team(a[0]) ? (Object) placement.get(a[0]) : BOUNDS;
            case "teamIn": return zone(a[0]) ? (Object) placement.indexOf(a[0]) : BOUNDS;
            case "free": return free(a[0], a[1]);
            case "distance": return zone(a[0]) && zone(a[1]) ? (Object) way(a[0], a[1]) : BOUNDS;
            case "wishCost": return cost(placement, false);
            case "cost": return cost(placement, true);
            case "leastWishCost": return leastWishCost();
            case "circles": return circles();
            case "moves": return differences(placement, target()) + circles();
            default: throw new IllegalArgumentException(call);
        }
    }

    private static final String BOUNDS = "IndexOutOfBoundsException";
    private static final String ARGUMENT = "IllegalArgumentException";
    private static final String STATE = "IllegalStateException";

    private static boolean in(int n, int least, int most) {
        return least <= n && n <= most;
    }

    private static boolean square(List<Integer> s) {
        return in(s.get(0), 0, 7) && in(s.get(1), 0, 7);
    }

    private boolean zone(int zone) {
        return in(zone, 0, squares.size() - 1);
    }

    private boolean team(int team) {
        return in(team, 0, present.size() - 1);
    }

    private Object setWall(List<Integer> s, boolean wall) {
        if (!square(s)) {
            return BOUNDS;
        }
        if (squares.contains(s)) {
            return STATE;
        }
        boolean before = wall ? !walls.add(s) : walls.remove(s);
        return before ? 1 : 0;
    }

    private Object addZone(List<Integer> s, int desksThere) {
        if (!square(s)) {
            return BOUNDS;
        }
        if (!in(desksThere, 1, 60)) {
            return ARGUMENT;
        }
        if (squares.size() == 7 || walls.contains(s) || squares.contains(s)) {
            return STATE;
        }
        squares.add(s);
        desks.add(desksThere);
        return squares.size() - 1;
    }

    private Object setDesks(int zone, int desksThere) {
        if (!zone(zone)) {
            return BOUNDS;
        }
        if (!in(desksThere, 1, 60)) {
            return ARGUMENT;
        }
        int team = placement.indexOf(zone);
        if (team >= 0 && need(present.get(team)) > desksThere) {
            return STATE;
        }
        return desks.set(zone, desksThere);
    }

    private Object addTeam() {
        if (present.size() == 7) {
            return STATE;
        }
        present.add(List.of(1, 1, 1, 1, 1));
        placement.add(-1);
        return present.size() - 1;
    }

    private Object setPresent(int team, int day, int people) {
        if (!team(team) || !in(day, 0, 4)) {
            return BOUNDS;
        }
        if (!in(people, 0, 60)) {
            return ARGUMENT;
        }
        List<Integer> then = new ArrayList<>(present.get(team));
        int before = then.set(day, people);
        int zone = placement.get(team);
        if (zone >= 0 && need(then) > desks.get(zone)) {
            return STATE;
        }
        present.set(team, then);
        return before;
    }

    private Object setWish(int team, int zone, int cost) {
        if (!team(team) || !zone(zone)) {
            return BOUNDS;
        }
        if (!in(cost, 0, 99)) {
            return ARGUMENT;
        }
        Integer before = wishes.put(List.of(team, zone), cost);
        return before == null ? 0 : before;
    }

    private Object setTie(int team, int other, int tie) {
        if (!team(team) || !team(other)) {
            return BOUNDS;
        }
        if (!in(tie, 0, 9) || team == other) {
            return ARGUMENT;
        }
        Integer before = ties.put(Set.of(team, other), tie);
        return before == null ? 0 : before;
    }

    private Object place(int team, int zone) {
        if (!team(team) || zone != -1 && !zone(zone)) {
            return BOUNDS;
        }
        if (zone >= 0) {
            int there = placement.indexOf(zone);
            if (there >= 0 && there != team || !fits(team, zone)) {
                return STATE;
            }
        }
        return placement.set(team, zone);
    }

    private static int need(List<Integer> people) {
        int need = 0;
        for (int n : people) {
            need = n > need ? n : need;
        }
        return need;
    }

    private int share(int team) {
        int need = need(present.get(team));
        int sum = present.get(team).stream().mapToInt(n -> n).sum();
        return need == 0 ? 100 : (int) Math.floor(sum * 100.0 / (5.0 * need) + 1e-9);
    }

    private boolean fits(int team, int zone) {
        return need(present.get(team)) <= desks.get(zone);
    }

    private Object free(int zone, int day) {
        if (!zone(zone) || !in(day, 0, 4)) {
            return BOUNDS;
        }
        int team = placement.indexOf(zone);
        return desks.get(zone) - (team < 0 ? 0 : present.get(team).get(day));
    }

    /** Widens the set of squares that are reached until it holds the other one. */
    private int way(int zone, int other) {
        Set<List<Integer>> reached = new HashSet<>();
        reached.add(squares.get(zone));
        for (int steps = 0; steps < 64; steps++) {
            if (reached.contains(squares.get(other))) {
                return steps;
            }
            Set<List<Integer>> wider = new HashSet<>(reached);
            for (List<Integer> s : reached) {
                int column = s.get(0);
                int row = s.get(1);
                wider.add(List.of(column, row + 1));
                wider.add(List.of(column, row - 1));
                wider.add(List.of(column + 1, row));
                wider.add(List.of(column - 1, row));
            }
            wider.removeIf(s -> !square(s) || walls.contains(s));
            reached = wider;
        }
        return 100;
    }

    private int[][] ways() {
        int[][] ways = new int[squares.size()][squares.size()];
        for (int zone = 0; zone < ways.length; zone++) {
            for (int other = 0; other < ways.length; other++) {
                ways[zone][other] = way(zone, other);
            }
        }
        return ways;
    }

    private int cost(List<Integer> where, boolean withTies) {
        return cost(where, withTies ? ways() : null);
    }

    private int cost(List<Integer> where, int[][] ways) {
        int cost = 0;
        for (int team = 0; team < where.size(); team++) {
            int zone = where.get(team);
            if (zone >= 0) {
                cost += wishes.getOrDefault(List.of(team, zone), 0);
            }
            for (int other = 0; ways != null && other < team; other++) {
                if (zone >= 0 && where.get(other) >= 0) {
                    cost += ties.getOrDefault(Set.of(team, other), 0) * ways[zone][where.get(other)];
                }
            }
        }
        return cost;
    }

    /** All placements of all teams, the first one first. */
    private List<List<Integer>> all() {
        List<List<Integer>> all = new ArrayList<>();
        all.add(new ArrayList<>());
        for (int team = 0; team < present.size(); team++) {
            List<List<Integer>> longer = new ArrayList<>();
            for (List<Integer> part : all) {
                for (int zone = 0; zone < squares.size(); zone++) {
                    if (!part.contains(zone) && fits(team, zone)) {
                        List<Integer> then = new ArrayList<>(part);
                        then.add(zone);
                        longer.add(then);
                    }
                }
            }
            all = longer;
        }
        return all;
    }

    private List<Integer> first(boolean withTies) {
        int[][] ways = withTies ? ways() : null;
        List<Integer> best = null;
        int least = 0;
        for (List<Integer> where : all()) {
            int cost = cost(where, ways);
            if (best == null || cost < least) {
                best = where;
                least = cost;
            }
        }
        return best;
    }

    private void lay(List<Integer> where) {
        for (int team = 0; team < placement.size(); team++) {
            placement.set(team, where.get(team));
        }
    }

    private Object layLeast(boolean withTies) {
        List<Integer> best = first(withTies);
        if (best == null) {
            return STATE;
        }
        lay(best);
        return cost(best, withTies);
    }

    private int leastWishCost() {
        List<Integer> best = first(false);
        return best == null ? -1 : cost(best, false);
    }

    private Object search(int steps, int rest) {
        if (!in(steps, 1, 40) || !in(rest, 0, 5)) {
            return ARGUMENT;
        }
        if (placement.contains(-1)) {
            return STATE;
        }
        int[][] ways = ways();
        List<List<Integer>> path = new ArrayList<>();
        List<Set<Integer>> changed = new ArrayList<>();
        path.add(new ArrayList<>(placement));
        while (changed.size() < steps) {
            List<Integer> now = path.get(path.size() - 1);
            Set<Integer> resting = new HashSet<>();
            for (int i = Math.max(0, changed.size() - rest); i < changed.size(); i++) {
                resting.addAll(changed.get(i));
            }
            List<Integer> next = bestChange(now, resting, ways);
            if (next == null) {
                break;
            }
            Set<Integer> teams = new HashSet<>();
            for (int team = 0; team < now.size(); team++) {
                if (!now.get(team).equals(next.get(team))) {
                    teams.add(team);
                }
            }
            changed.add(teams);
            path.add(next);
        }
        List<Integer> best = path.get(0);
        for (List<Integer> where : path) {
            if (cost(where, ways) < cost(best, ways)) {
                best = where;
            }
        }
        lay(best);
        return cost(best, ways);
    }

    private List<Integer> bestChange(List<Integer> now, Set<Integer> resting, int[][] ways) {
        List<List<Integer>> changes = new ArrayList<>();
        for (int team = 0; team < now.size(); team++) {
            for (int other = team + 1; other < now.size(); other++) {
                boolean rested = !resting.contains(team) && !resting.contains(other);
                if (rested && fits(team, now.get(other)) && fits(other, now.get(team))) {
                    List<Integer> then = new ArrayList<>(now);
                    then.set(team, now.get(other));
                    then.set(other, now.get(team));
                    changes.add(then);
                }
            }
        }
        for (int team = 0; team < now.size(); team++) {
            for (int zone = 0; zone < squares.size(); zone++) {
                if (!resting.contains(team) && !now.contains(zone) && fits(team, zone)) {
                    List<Integer> then = new ArrayList<>(now);
                    then.set(team, zone);
                    changes.add(then);
                }
            }
        }
        List<Integer> best = null;
        for (List<Integer> change : changes) {
            if (best == null || cost(change, ways) < cost(best, ways)) {
                best = change;
            }
        }
        return best;
    }

    private int remember() {
        remembered = new ArrayList<>(placement);
        return (int) placement.stream().filter(zone -> zone >= 0).count();
    }

    /** The remembered placement, and in none the teams that were added since. */
    private List<Integer> target() {
        List<Integer> target = new ArrayList<>(remembered);
        while (target.size() < present.size()) {
            target.add(-1);
        }
        return target;
    }

    private static int differences(List<Integer> one, List<Integer> other) {
        int count = 0;
        for (int team = 0; team < one.size(); team++) {
            count += one.get(team).equals(other.get(team)) ? 0 : 1;
        }
        return count;
    }

    private Object recall() {
        List<Integer> target = target();
        for (int team = 0; team < target.size(); team++) {
            if (target.get(team) >= 0 && !fits(team, target.get(team))) {
                return STATE;
            }
        }
        int count = differences(placement, target);
        lay(target);
        return count;
    }

    /** Follows every team round; what comes back to it is a circle, told by its set of teams. */
    private int circles() {
        List<Integer> target = target();
        Set<Set<Integer>> circles = new HashSet<>();
        for (int start = 0; start < target.size(); start++) {
            Set<Integer> seen = new HashSet<>();
            int team = start;
            while (team >= 0 && seen.add(team)) {
                team = target.get(team) < 0 ? -1 : placement.indexOf(target.get(team));
            }
            if (team == start && seen.size() > 1) {
                circles.add(seen);
            }
        }
        return circles.size();
    }
}
