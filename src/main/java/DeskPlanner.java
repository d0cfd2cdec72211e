import java.util.Arrays;

/**
 * A planner for an office floor: zones with desks on a floor with walls, teams whose people are
 * present on some days and share desks, wishes of teams for zones and ties between teams.
 */
public final class DeskPlanner {
    private static final int SIDE = 8;
    private static final int SQUARES = SIDE * SIDE;
    private static final int NO_WAY = 100;
    private static final int MOST_ZONES = 7;
    private static final int MOST_DESKS = 60;
    private static final int MOST_TEAMS = 7;
    private static final int DAYS = 5;
    private static final int MOST_PEOPLE = 60;
    private static final int PEOPLE_AT_FIRST = 1;
    private static final int WHOLE_SHARE = 100;
    private static final int MOST_WISH = 99;
    private static final int MOST_TIE = 9;
    private static final int MOST_STEPS = 40;
    private static final int MOST_REST = 5;

    /** Stands for no zone, no team, and for the cost of a placement that there is not. */
    private static final int NONE = -1;

    private final Office office = new Office();
    private final Placement placed = new Placement();
    private final Placement remembered = new Placement();
    private final FullSearch fullSearch = new FullSearch();
    private final StepSearch stepSearch = new StepSearch();

    public DeskPlanner() {
    }

    // ---- floor, zones, teams

    public boolean setWall(int column, int row, boolean wall)
            throws IndexOutOfBoundsException, IllegalStateException {
        requireSquare(column, row);
        if (office.floor.hasZone(column, row)) {
            throw new IllegalStateException("there is a zone at the square");
        }
        return office.floor.buildWall(column, row, wall);
    }

    public int addZone(int column, int row, int desks)
            throws IndexOutOfBoundsException, IllegalArgumentException, IllegalStateException {
        requireSquare(column, row);
        requireRange(desks, 1, MOST_DESKS);
        if (office.floor.zoneCount >= MOST_ZONES) {
            throw new IllegalStateException("there are as many zones as there may be");
        }
        if (office.floor.hasWall(column, row) || office.floor.hasZone(column, row)) {
            throw new IllegalStateException("the square has a wall or a zone");
        }
        return office.floor.openZone(column, row, desks);
    }

    public int setDesks(int zone, int desks)
            throws IndexOutOfBoundsException, IllegalArgumentException, IllegalStateException {
        requireZone(zone);
        requireRange(desks, 1, MOST_DESKS);
        int team = placed.teamAt(zone);
        if (team != NONE && office.staff.needs[team] > desks) {
            throw new IllegalStateException("the team in the zone would not fit any more");
        }
        int before = office.floor.desks[zone];
        office.floor.desks[zone] = desks;
        return before;
    }

    public int addTeam() throws IllegalStateException {
        if (office.staff.teamCount >= MOST_TEAMS) {
            throw new IllegalStateException("there are as many teams as there may be");
        }
        return office.staff.enter();
    }

    public int setPresent(int team, int day, int people)
            throws IndexOutOfBoundsException, IllegalArgumentException, IllegalStateException {
        requireTeam(team);
        requireDay(day);
        requireRange(people, 0, MOST_PEOPLE);
        int zone = placed.zoneWith(team);
        if (zone != NONE && office.staff.needWith(team, day, people) > office.floor.desks[zone]) {
            throw new IllegalStateException("the team would not fit into its zone any more");
        }
        return office.staff.changePresent(team, day, people);
    }

    public int setWish(int team, int zone, int cost)
            throws IndexOutOfBoundsException, IllegalArgumentException {
        requireTeam(team);
        requireZone(zone);
        requireRange(cost, 0, MOST_WISH);
        int before = office.staff.wishes[team][zone];
        office.staff.wishes[team][zone] = cost;
        return before;
    }

    public int setTie(int team, int other, int tie)
            throws IndexOutOfBoundsException, IllegalArgumentException {
        requireTeam(team);
        requireTeam(other);
        requireRange(tie, 0, MOST_TIE);
        if (team == other) {
            throw new IllegalArgumentException("a team has no tie to itself");
        }
        return office.staff.changeTie(team, other, tie);
    }

    // ---- placing

    public int place(int team, int zone) throws IndexOutOfBoundsException, IllegalStateException {
        requireTeam(team);
        if (zone != NONE) {
            requireZone(zone);
            requireRoom(team, zone);
        }
        int before = placed.zoneWith(team);
        placed.lay(team, zone);
        return before;
    }

    public int placeByWishes() throws IllegalStateException {
        return layLeast(false);
    }

    public int placeBest() throws IllegalStateException {
        return layLeast(true);
    }

    public int search(int steps, int rest) throws IllegalArgumentException, IllegalStateException {
        requireRange(steps, 1, MOST_STEPS);
        requireRange(rest, 0, MOST_REST);
        if (placed.countPlaced() < office.staff.teamCount) {
            throw new IllegalStateException("some team is in no zone");
        }
        int cost = stepSearch.run(office, placed, steps, rest);
        placed.layLike(stepSearch.best);
        return cost;
    }

    public int remember() {
        remembered.layLike(placed);
        return placed.countPlaced();
    }

    public int recall() throws IllegalStateException {
        for (int team = 0; team < office.staff.teamCount; team++) {
            int zone = remembered.zoneWith(team);
            if (zone != NONE && !office.fits(team, zone)) {
                throw new IllegalStateException("some team would not fit");
            }
        }
        int changed = placed.countOtherwise(remembered);
        placed.layLike(remembered);
        return changed;
    }

    // ---- what there is; nothing from here on changes anything

    public int zones() {
        return office.floor.zoneCount;
    }

    public int teams() {
        return office.staff.teamCount;
    }

    public int need(int team) throws IndexOutOfBoundsException {
        requireTeam(team);
        return office.staff.needs[team];
    }

    public int share(int team) throws IndexOutOfBoundsException {
        requireTeam(team);
        return office.staff.shareOf(team);
    }

    public int zoneOf(int team) throws IndexOutOfBoundsException {
        requireTeam(team);
        return placed.zoneWith(team);
    }

    public int teamIn(int zone) throws IndexOutOfBoundsException {
        requireZone(zone);
        return placed.teamAt(zone);
    }

    public int free(int zone, int day) throws IndexOutOfBoundsException {
        requireZone(zone);
        requireDay(day);
        int team = placed.teamAt(zone);
        int people = team == NONE ? 0 : office.staff.present[team][day];
        return office.floor.desks[zone] - people;
    }

    public int distance(int zone, int other) throws IndexOutOfBoundsException {
        requireZone(zone);
        requireZone(other);
        return office.floor.distances[zone][other];
    }

    public int wishCost() {
        return office.wishCostOf(placed);
    }

    public int cost() {
        return office.costOf(placed);
    }

    public int leastWishCost() {
        return fullSearch.findLeast(office, false);
    }

    // ---- moves

    public int circles() {
        int found = 0;
        for (int team = 0; team < office.staff.teamCount; team++) {
            if (isLowestOfCircle(team)) {
                found++;
            }
        }
        return found;
    }

    public int moves() {
        return placed.countOtherwise(remembered) + circles();
    }

    // ---- what the calls above are made of

    private void requireSquare(int column, int row) {
        if (!Floor.isSquare(column, row)) {
            throw new IndexOutOfBoundsException("there is no such square");
        }
    }

    private void requireZone(int zone) {
        if (zone < 0 || zone >= office.floor.zoneCount) {
            throw new IndexOutOfBoundsException("there is no such zone");
        }
    }

    private void requireTeam(int team) {
        if (team < 0 || team >= office.staff.teamCount) {
            throw new IndexOutOfBoundsException("there is no such team");
        }
    }

    private void requireDay(int day) {
        if (day < 0 || day >= DAYS) {
            throw new IndexOutOfBoundsException("there is no such day");
        }
    }

    private void requireRange(int number, int least, int most) {
        if (number < least || number > most) {
            throw new IllegalArgumentException("a number is out of range");
        }
    }

    private void requireRoom(int team, int zone) {
        int there = placed.teamAt(zone);
        if (there != NONE && there != team) {
            throw new IllegalStateException("another team is in the zone");
        }
        if (!office.fits(team, zone)) {
            throw new IllegalStateException("the team does not fit into the zone");
        }
    }

    private int layLeast(boolean withTies) {
        int least = fullSearch.findLeast(office, withTies);
        if (least == NONE) {
            throw new IllegalStateException("there is no placement of all teams");
        }
        placed.layLike(fullSearch.best);
        return least;
    }

    /** A circle is counted at its lowest team, so that it counts once. */
    private boolean isLowestOfCircle(int team) {
        int next = teamInTheWayOf(team);
        for (int length = 1; length <= MOST_TEAMS; length++) {
            if (next == NONE || next < team) {
                return false;
            }
            if (next == team) {
                return length > 1;
            }
            next = teamInTheWayOf(next);
        }
        return false;
    }

    /** The team that is now in the zone into which the team is to come, perhaps the team itself. */
    private int teamInTheWayOf(int team) {
        return placed.teamAt(remembered.zoneWith(team));
    }

    /** The walls, the zones with their desks, and the ways between the zones. */
    private static final class Floor {
        private final boolean[] walls = new boolean[SQUARES];
        private final int[] zoneSquares = new int[MOST_ZONES];
        private final int[] desks = new int[MOST_ZONES];
        private final int[][] distances = new int[MOST_ZONES][MOST_ZONES];
        private final int[] steps = new int[SQUARES];
        private final int[] reached = new int[SQUARES];
        private int reachedCount = 0;
        private int zoneCount = 0;

        static boolean isSquare(int column, int row) {
            return column >= 0 && column < SIDE && row >= 0 && row < SIDE;
        }

        private static int squareAt(int column, int row) {
            return row * SIDE + column;
        }

        boolean hasWall(int column, int row) {
            return walls[squareAt(column, row)];
        }

        boolean hasZone(int column, int row) {
            int square = squareAt(column, row);
            for (int zone = 0; zone < zoneCount; zone++) {
                if (zoneSquares[zone] == square) {
                    return true;
                }
            }
            return false;
        }

        boolean buildWall(int column, int row, boolean wall) {
            int square = squareAt(column, row);
            boolean before = walls[square];
            if (before != wall) {
                walls[square] = wall;
                measureAll();
            }
            return before;
        }

        int openZone(int column, int row, int desksThere) {
            int zone = zoneCount;
            zoneSquares[zone] = squareAt(column, row);
            desks[zone] = desksThere;
            zoneCount++;
            measureAll();
            return zone;
        }

        /** Walls and zones change seldom, distances are asked often: so they are kept. */
        private void measureAll() {
            for (int zone = 0; zone < zoneCount; zone++) {
                measureFrom(zone);
            }
        }

        private void measureFrom(int zone) {
            Arrays.fill(steps, NO_WAY);
            reachedCount = 0;
            reach(zoneSquares[zone] % SIDE, zoneSquares[zone] / SIDE, 0);
            for (int i = 0; i < reachedCount && i < SQUARES; i++) {
                int column = reached[i] % SIDE;
                int row = reached[i] / SIDE;
                int further = steps[reached[i]] + 1;
                reach(column - 1, row, further);
                reach(column + 1, row, further);
                reach(column, row - 1, further);
                reach(column, row + 1, further);
            }
            for (int other = 0; other < zoneCount; other++) {
                distances[zone][other] = steps[zoneSquares[other]];
            }
        }

        /** Squares are reached in the order of their steps, so the first way to one is a shortest. */
        private void reach(int column, int row, int count) {
            if (!isSquare(column, row) || reachedCount >= SQUARES) {
                return;
            }
            int square = squareAt(column, row);
            if (walls[square] || steps[square] != NO_WAY) {
                return;
            }
            steps[square] = count;
            reached[reachedCount] = square;
            reachedCount++;
        }
    }

    /** The teams: who is present when, what they wish, and their ties. */
    private static final class Staff {
        private final int[][] present = new int[MOST_TEAMS][DAYS];
        private final int[] needs = new int[MOST_TEAMS];
        private final int[][] wishes = new int[MOST_TEAMS][MOST_ZONES];
        private final int[][] ties = new int[MOST_TEAMS][MOST_TEAMS];
        private int teamCount = 0;

        int enter() {
            int team = teamCount;
            Arrays.fill(present[team], PEOPLE_AT_FIRST);
            needs[team] = PEOPLE_AT_FIRST;
            teamCount++;
            return team;
        }

        /** The need that the team would have with these people on the day. */
        int needWith(int team, int day, int people) {
            int need = people;
            for (int i = 0; i < DAYS; i++) {
                if (i != day) {
                    need = Math.max(need, present[team][i]);
                }
            }
            return need;
        }

        int changePresent(int team, int day, int people) {
            int before = present[team][day];
            needs[team] = needWith(team, day, people);
            present[team][day] = people;
            return before;
        }

        int changeTie(int team, int other, int tie) {
            int before = ties[team][other];
            ties[team][other] = tie;
            ties[other][team] = tie;
            return before;
        }

        int shareOf(int team) {
            int need = needs[team];
            if (need <= 0) {
                return WHOLE_SHARE;
            }
            int sum = 0;
            for (int day = 0; day < DAYS; day++) {
                sum += present[team][day];
            }
            return sum * WHOLE_SHARE / (DAYS * need);
        }
    }

    /** The zone of each team; a team that there is not is in none. */
    private static final class Placement {
        private final int[] zoneByTeam = new int[MOST_TEAMS];

        Placement() {
            Arrays.fill(zoneByTeam, NONE);
        }

        int zoneWith(int team) {
            return zoneByTeam[team];
        }

        int teamAt(int zone) {
            if (zone == NONE) {
                return NONE;
            }
            for (int team = 0; team < MOST_TEAMS; team++) {
                if (zoneByTeam[team] == zone) {
                    return team;
                }
            }
            return NONE;
        }

        void lay(int team, int zone) {
            zoneByTeam[team] = zone;
        }

        void exchange(int team, int other) {
            int zone = zoneByTeam[team];
            zoneByTeam[team] = zoneByTeam[other];
            zoneByTeam[other] = zone;
        }

        void layLike(Placement model) {
            System.arraycopy(model.zoneByTeam, 0, zoneByTeam, 0, MOST_TEAMS);
        }

        int countPlaced() {
            int count = 0;
            for (int team = 0; team < MOST_TEAMS; team++) {
                if (zoneByTeam[team] != NONE) {
                    count++;
                }
            }
            return count;
        }

        int countOtherwise(Placement model) {
            int count = 0;
            for (int team = 0; team < MOST_TEAMS; team++) {
                if (zoneByTeam[team] != model.zoneByTeam[team]) {
                    count++;
                }
            }
            return count;
        }
    }

    /** The floor and the teams together: what fits, and what a placement costs. */
    private static final class Office {
        private final Floor floor = new Floor();
        private final Staff staff = new Staff();

        boolean fits(int team, int zone) {
            return floor.desks[zone] >= staff.needs[team];
        }

        int costOf(Placement placement) {
            int sum = wishCostOf(placement);
            for (int team = 0; team < staff.teamCount; team++) {
                sum += tieCostToLower(placement, team);
            }
            return sum;
        }

        int wishCostOf(Placement placement) {
            int sum = 0;
            for (int team = 0; team < staff.teamCount; team++) {
                int zone = placement.zoneWith(team);
                if (zone != NONE) {
                    sum += staff.wishes[team][zone];
                }
            }
            return sum;
        }

        /** Each two teams count once: at the higher one. */
        int tieCostToLower(Placement placement, int team) {
            int zone = placement.zoneWith(team);
            if (zone == NONE) {
                return 0;
            }
            int sum = 0;
            for (int lower = 0; lower < team; lower++) {
                int otherZone = placement.zoneWith(lower);
                if (otherZone != NONE) {
                    sum += staff.ties[team][lower] * floor.distances[zone][otherZone];
                }
            }
            return sum;
        }
    }

    /** Tries all placements of all teams, in their order, and keeps the first one that costs least. */
    private static final class FullSearch {
        private final Placement trial = new Placement();
        private final Placement best = new Placement();
        private final boolean[] taken = new boolean[MOST_ZONES];
        private boolean withTies = false;
        private int least = NONE;

        /** Answers NONE if there is no placement of all teams. */
        int findLeast(Office office, boolean tiesCount) {
            withTies = tiesCount;
            least = NONE;
            tryFrom(office, 0, 0);
            return least;
        }

        /** Goes as deep as there are teams: seven at most. */
        private void tryFrom(Office office, int team, int cost) {
            if (team >= office.staff.teamCount) {
                least = cost;
                best.layLike(trial);
                return;
            }
            for (int zone = 0; zone < office.floor.zoneCount; zone++) {
                if (!taken[zone] && office.fits(team, zone)) {
                    tryAt(office, team, zone, cost);
                }
            }
        }

        private void tryAt(Office office, int team, int zone, int costBefore) {
            trial.lay(team, zone);
            int cost = costBefore + office.staff.wishes[team][zone];
            if (withTies) {
                cost += office.tieCostToLower(trial, team);
            }
            // No cost is negative, so whatever goes on from here costs as much at least.
            if (least != NONE && cost >= least) {
                return;
            }
            taken[zone] = true;
            tryFrom(office, team + 1, cost);
            taken[zone] = false;
        }
    }

    /** Makes the best change step by step, and keeps the earliest placement that costs least. */
    private static final class StepSearch {
        private final Placement trial = new Placement();
        private final Placement best = new Placement();
        private final int[] restedAt = new int[MOST_TEAMS];
        private final Change change = new Change();

        int run(Office office, Placement start, int steps, int rest) {
            trial.layLike(start);
            best.layLike(start);
            Arrays.fill(restedAt, 0);
            int least = office.costOf(start);
            for (int step = 0; step < steps; step++) {
                chooseChange(office, step);
                if (!change.found) {
                    break;
                }
                makeChange(step + rest + 1);
                if (change.cost < least) {
                    least = change.cost;
                    best.layLike(trial);
                }
            }
            return least;
        }

        /** Weighs the changes in the order in which they come ahead of one another. */
        private void chooseChange(Office office, int step) {
            change.found = false;
            int teamCount = office.staff.teamCount;
            for (int team = 0; team < teamCount; team++) {
                for (int other = team + 1; other < teamCount; other++) {
                    if (restedAt[team] <= step && restedAt[other] <= step) {
                        weighExchange(office, team, other);
                    }
                }
            }
            for (int team = 0; team < teamCount; team++) {
                for (int zone = 0; zone < office.floor.zoneCount; zone++) {
                    if (restedAt[team] <= step && trial.teamAt(zone) == NONE) {
                        weighMove(office, team, zone);
                    }
                }
            }
        }

        private void weighExchange(Office office, int team, int other) {
            int zone = trial.zoneWith(team);
            int otherZone = trial.zoneWith(other);
            if (zone == NONE || otherZone == NONE) {
                return;
            }
            if (office.fits(team, otherZone) && office.fits(other, zone)) {
                trial.exchange(team, other);
                change.keepIfLess(team, other, otherZone, office.costOf(trial));
                trial.exchange(team, other);
            }
        }

        private void weighMove(Office office, int team, int zone) {
            if (office.fits(team, zone)) {
                int before = trial.zoneWith(team);
                trial.lay(team, zone);
                change.keepIfLess(team, NONE, zone, office.costOf(trial));
                trial.lay(team, before);
            }
        }

        private void makeChange(int restedThen) {
            if (change.other == NONE) {
                trial.lay(change.team, change.zone);
            } else {
                trial.exchange(change.team, change.other);
                restedAt[change.other] = restedThen;
            }
            restedAt[change.team] = restedThen;
        }
    }

    /** The best change seen so far in a step; other is NONE for a move. */
    private static final class Change {
        private boolean found = false;
        private int team = 0;
        private int other = NONE;
        private int zone = 0;
        private int cost = 0;

        void keepIfLess(int teamChanged, int otherChanged, int zoneThen, int costThen) {
            if (found && costThen >= cost) {
                return;
            }
            found = true;
            team = teamChanged;
            other = otherChanged;
            zone = zoneThen;
            cost = costThen;
        }
    }
}
