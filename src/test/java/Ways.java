import java.util.ArrayDeque;
import java.util.ArrayList;
import java.util.Arrays;
import java.util.Deque;
import java.util.HashMap;
import java.util.HashSet;
import java.util.LinkedList;
import java.util.List;
import java.util.Map;
import java.util.Set;

/** Ways from one placement to another, move by move; a placement has each team's zone, or -1. */
final class Ways {
    static final int ZONES = 4;
    private static final int OUT = -1;

    private Ways() {
    }

    static String text(int[] start, int[] target) {
        return "from " + Arrays.toString(start) + " to " + Arrays.toString(target);
    }

    /** All placements of so many teams, those with teams in none among them. */
    static List<int[]> placements(int teams) {
        List<int[]> all = new ArrayList<>();
        all.add(new int[0]);
        for (int team = 0; team < teams; team++) {
            List<int[]> longer = new ArrayList<>();
            for (int[] part : all) {
                for (int zone = OUT; zone < ZONES; zone++) {
                    if (zone == OUT || !has(part, zone)) {
                        longer.add(with(Arrays.copyOf(part, team + 1), team, zone));
                    }
                }
            }
            all = longer;
        }
        return all;
    }

    private static boolean has(int[] where, int zone) {
        return Arrays.stream(where).anyMatch(there -> there == zone);
    }

    private static int[] with(int[] where, int team, int zone) {
        int[] then = where.clone();
        then[team] = zone;
        return then;
    }

    /** The placements behind each move of a shortest way, the target last; of no move, none. */
    static List<int[]> shortest(int[] start, int[] target) {
        Map<String, int[]> cameFrom = new HashMap<>();
        Deque<int[]> open = new ArrayDeque<>();
        cameFrom.put(Arrays.toString(start), start);
        open.add(start);
        while (!cameFrom.containsKey(Arrays.toString(target))) {
            int[] now = open.remove();
            for (int[] then : moves(now, start, target)) {
                if (cameFrom.putIfAbsent(Arrays.toString(then), now) == null) {
                    open.add(then);
                }
            }
        }
        LinkedList<int[]> way = new LinkedList<>();
        for (int[] at = target; !Arrays.equals(at, start); at = cameFrom.get(Arrays.toString(at))) {
            way.addFirst(at);
        }
        return way;
    }

    /** A team moves out, or into a zone without a team. */
    private static List<int[]> moves(int[] now, int[] start, int[] target) {
        List<int[]> moves = new ArrayList<>();
        for (int team = 0; team < now.length; team++) {
            for (int zone = OUT; zone < ZONES; zone++) {
                boolean goes = zone == OUT ? now[team] != OUT : !has(now, zone);
                int[] then = with(now, team, zone);
                if (goes && waiting(then, start, target) <= 1) {
                    moves.add(then);
                }
            }
        }
        return moves;
    }

    /** Who is outside without having been there at first, and without having to end there. */
    private static int waiting(int[] now, int[] start, int[] target) {
        int count = 0;
        for (int team = 0; team < now.length; team++) {
            count += now[team] == OUT && start[team] != OUT && target[team] != OUT ? 1 : 0;
        }
        return count;
    }

    /** Tries each row of two teams or more, the lowest one first: so a circle is one row only. */
    static int circles(int[] start, int[] target) {
        Set<String> circles = new HashSet<>();
        List<int[]> rows = new ArrayList<>();
        for (int team = 0; team < start.length; team++) {
            rows.add(new int[] {team});
        }
        while (!rows.isEmpty()) {
            int[] row = rows.remove(0);
            int last = row[row.length - 1];
            if (row.length > 1 && comesAfter(last, row[0], start, target)) {
                circles.add(Arrays.toString(row));
            }
            for (int next = row[0] + 1; next < start.length; next++) {
                if (!has(row, next) && comesAfter(last, next, start, target)) {
                    rows.add(with(Arrays.copyOf(row, row.length + 1), row.length, next));
                }
            }
        }
        return circles.size();
    }

    /** Whether the one team is to come into the zone where the next one is now. */
    private static boolean comesAfter(int team, int next, int[] start, int[] target) {
        return target[team] != OUT && target[team] == start[next];
    }
}
