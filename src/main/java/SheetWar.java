import java.util.Arrays;

/**
 * A war on a map, settled sheet by sheet: all orders of a turn at once, then retreats and builds.
 *
 * <p>Sets of areas are held as the bits of an int, so that settling makes no objects.
 */
public final class SheetWar {
    public static final int NONE = -1;

    private static final int AREAS = 12;
    private static final int PLAYERS = 4;

    private static final int LAND = 0;
    private static final int SEA = 1;
    private static final int ARMY = 0;
    private static final int FLEET = 1;
    private static final int REMOVE = 2;

    private static final int SET_UP = 0;
    private static final int ORDERS = 1;
    private static final int RETREATS = 2;
    private static final int BUILDS = 3;

    private static final int HOLD = 0;
    private static final int MOVE = 1;
    private static final int SUPPORT = 2;
    private static final int CONVOY = 3;

    private static final int SUCCEEDED = 1;
    private static final int MOVE_FAILED = 2;
    private static final int SUPPORT_FAILED = 3;
    private static final int WAS_DISPLACED = 4;

    private static final int DONE = 0;
    private static final int NOT_THEIRS = 1;
    private static final int MAY_NOT_NOW = 1;
    private static final int CANNOT = 2;

    private static final int CENTERS_WANTED = 0;
    private static final int UNITS_WANTED = 1;

    private final WarMap map;
    private final Sheet sheet;
    private final Settling settling;
    private final Aside aside;
    private final Past past;
    private int currentPhase;

    public SheetWar() {
        WarMap emptyMap = new WarMap();
        Sheet emptySheet = new Sheet();
        map = emptyMap;
        sheet = emptySheet;
        settling = new Settling(emptyMap, emptySheet);
        aside = new Aside();
        past = new Past();
        currentPhase = SET_UP;
    }

    public int area(int kind, boolean center, int home) throws IllegalArgumentException, IllegalStateException {
        if (kind != LAND && kind != SEA) {
            throw new IllegalArgumentException();
        }
        if (home != NONE && !isPlayer(home)) {
            throw new IllegalArgumentException();
        }
        if (center ? kind == SEA : home != NONE) {
            throw new IllegalArgumentException();
        }
        if (currentPhase != SET_UP || map.size >= AREAS) {
            throw new IllegalStateException();
        }
        sheet.owners[map.size] = home;
        return map.addArea(kind, center, home);
    }

    public boolean border(int a, int b) throws IllegalArgumentException, IllegalStateException {
        if (!map.has(a) || !map.has(b) || a == b) {
            throw new IllegalArgumentException();
        }
        if (currentPhase != SET_UP) {
            throw new IllegalStateException();
        }
        return map.join(a, b);
    }

    public void unit(int area, int player, int kind) throws IllegalArgumentException, IllegalStateException {
        if (!map.has(area) || !isPlayer(player) || (kind != ARMY && kind != FLEET)) {
            throw new IllegalArgumentException();
        }
        if (currentPhase != SET_UP || sheet.hasUnit(area) || !map.canStand(kind, area)) {
            throw new IllegalStateException();
        }
        sheet.units[area] = unitOf(player, kind);
    }

    public void start() throws IllegalStateException {
        if (currentPhase != SET_UP) {
            throw new IllegalStateException();
        }
        beginTurn();
    }

    public int order(int player, int area, int kind, int x, int y)
            throws IllegalArgumentException, IllegalStateException {
        if (!isPlayer(player) || !map.has(area) || kind < HOLD || kind > CONVOY) {
            throw new IllegalArgumentException();
        }
        if ((hasX(kind) && !map.has(x)) || (hasY(kind) && !map.has(y))) {
            throw new IllegalArgumentException();
        }
        if (currentPhase != ORDERS) {
            throw new IllegalStateException();
        }
        if (!sheet.hasUnit(area) || sheet.playerAt(area) != player) {
            return NOT_THEIRS;
        }
        if (!isPossible(area, kind, x, y)) {
            return CANNOT;
        }
        sheet.write(area, kind, hasX(kind) ? x : 0, hasY(kind) ? y : 0);
        return DONE;
    }

    public int resolve() throws IllegalStateException {
        if (currentPhase != ORDERS) {
            throw new IllegalStateException();
        }
        past.keep(sheet);
        settling.settle();
        settling.writeOutcomes();
        settling.moveUnits(aside);
        if (aside.isEmpty()) {
            endTurn();
        } else {
            currentPhase = RETREATS;
        }
        return settling.successes();
    }

    public int result(int area) {
        return map.has(area) ? sheet.outcomes[area] : 0;
    }

    public int retreat(int player, int area, int to) throws IllegalArgumentException, IllegalStateException {
        if (!isPlayer(player) || !map.has(area) || !map.has(to)) {
            throw new IllegalArgumentException();
        }
        if (currentPhase != RETREATS) {
            throw new IllegalStateException();
        }
        if (!aside.hasUnit(area) || aside.units[area] / 2 != player) {
            return NOT_THEIRS;
        }
        if (!isRefuge(area, to)) {
            return CANNOT;
        }
        aside.goals[area] = to;
        return DONE;
    }

    public int build(int player, int area, int kind) throws IllegalArgumentException, IllegalStateException {
        if (!isPlayer(player) || !map.has(area) || kind < ARMY || kind > REMOVE) {
            throw new IllegalArgumentException();
        }
        if (currentPhase != BUILDS) {
            throw new IllegalStateException();
        }
        return kind == REMOVE ? takeUnit(player, area) : putUnit(player, area, kind);
    }

    public int finish() throws IllegalStateException {
        if (currentPhase == RETREATS) {
            aside.retreatTo(sheet);
            endTurn();
        } else if (currentPhase == BUILDS) {
            removeSurplus();
            beginTurn();
        } else {
            throw new IllegalStateException();
        }
        return currentPhase;
    }

    public boolean undo() {
        if (!past.takeBack(sheet)) {
            return false;
        }
        aside.clear();
        currentPhase = ORDERS;
        return true;
    }

    public int phase() {
        return currentPhase;
    }

    public int turn() {
        return sheet.turnNumber;
    }

    public int at(int area) {
        return map.has(area) ? sheet.units[area] : NONE;
    }

    public int displaced(int area) {
        return map.has(area) ? aside.units[area] : NONE;
    }

    public boolean mayGo(int area, int to) {
        return map.has(area) && map.has(to) && aside.hasUnit(area) && isRefuge(area, to);
    }

    public int owner(int area) {
        return map.has(area) ? sheet.owners[area] : NONE;
    }

    public int count(int player, int what) {
        if (!isPlayer(player)) {
            return 0;
        }
        if (what == CENTERS_WANTED) {
            return sheet.centersOf(player);
        }
        return what == UNITS_WANTED ? sheet.unitsOf(player) : 0;
    }

    public int told(int area, int what) {
        if (currentPhase != ORDERS || !map.has(area) || !sheet.hasUnit(area)) {
            return NONE;
        }
        switch (what) {
            case 0:
                return sheet.orders[area];
            case 1:
                return sheet.xs[area];
            case 2:
                return sheet.ys[area];
            default:
                return NONE;
        }
    }

    private static boolean isPlayer(int player) {
        return player >= 0 && player < PLAYERS;
    }

    private static int unitOf(int player, int kind) {
        return 2 * player + kind;
    }

    private static boolean hasX(int orderKind) {
        return orderKind != HOLD;
    }

    private static boolean hasY(int orderKind) {
        return orderKind == SUPPORT || orderKind == CONVOY;
    }

    private static int bit(int area) {
        return 1 << area;
    }

    private static boolean in(int areas, int area) {
        return (areas >> area & 1) != 0;
    }

    private boolean isPossible(int area, int kind, int x, int y) {
        switch (kind) {
            case MOVE:
                return isPossibleMove(area, x);
            case SUPPORT:
                return x != area && y != area && sheet.hasUnit(x) && map.canGo(sheet.kindAt(area), area, y);
            case CONVOY:
                return isPossibleConvoy(area, x, y);
            default:
                return true;
        }
    }

    private boolean isPossibleMove(int area, int to) {
        int kind = sheet.kindAt(area);
        return map.canGo(kind, area, to) || (kind == ARMY && to != area && !map.isSea(to));
    }

    private boolean isPossibleConvoy(int area, int from, int to) {
        boolean fleetAtSea = sheet.kindAt(area) == FLEET && map.isSea(area);
        boolean armyThere = sheet.hasUnit(from) && sheet.kindAt(from) == ARMY;
        return fleetAtSea && armyThere && to != from && !map.isSea(to);
    }

    private boolean isRefuge(int area, int to) {
        return map.canGo(aside.units[area] % 2, area, to)
                && !sheet.hasUnit(to)
                && !in(aside.contested, to)
                && aside.origins[area] != to;
    }

    private void beginTurn() {
        sheet.turnNumber++;
        sheet.holdAll();
        currentPhase = ORDERS;
    }

    private void endTurn() {
        if (sheet.turnNumber % 2 != 0) {
            beginTurn();
            return;
        }
        takeCenters();
        if (buildsAreDue()) {
            currentPhase = BUILDS;
        } else {
            beginTurn();
        }
    }

    private void takeCenters() {
        for (int area = 0; area < map.size; area++) {
            if (in(map.centers, area) && sheet.hasUnit(area)) {
                sheet.owners[area] = sheet.playerAt(area);
            }
        }
    }

    private boolean buildsAreDue() {
        for (int player = 0; player < PLAYERS; player++) {
            int missing = sheet.missingUnits(player);
            if (missing < 0 || (missing > 0 && hasBuildingPlace(player))) {
                return true;
            }
        }
        return false;
    }

    private boolean hasBuildingPlace(int player) {
        for (int area = 0; area < map.size; area++) {
            if (isBuildingPlace(player, area)) {
                return true;
            }
        }
        return false;
    }

    private boolean isBuildingPlace(int player, int area) {
        return map.homes[area] == player && sheet.owners[area] == player && !sheet.hasUnit(area);
    }

    private int putUnit(int player, int area, int kind) {
        if (sheet.missingUnits(player) <= 0) {
            return MAY_NOT_NOW;
        }
        if (!isBuildingPlace(player, area) || !map.canStand(kind, area)) {
            return CANNOT;
        }
        sheet.units[area] = unitOf(player, kind);
        return DONE;
    }

    private int takeUnit(int player, int area) {
        if (sheet.missingUnits(player) >= 0) {
            return MAY_NOT_NOW;
        }
        if (!sheet.hasUnit(area) || sheet.playerAt(area) != player) {
            return CANNOT;
        }
        sheet.units[area] = NONE;
        return DONE;
    }

    private void removeSurplus() {
        for (int area = map.size - 1; area >= 0; area--) {
            if (sheet.hasUnit(area) && sheet.missingUnits(sheet.playerAt(area)) < 0) {
                sheet.units[area] = NONE;
            }
        }
    }

    /** What stays as it was set up. */
    private static final class WarMap {
        int size;
        int seas;
        int centers;
        final int[] homes = new int[AREAS];
        final int[] neighbours = new int[AREAS];

        boolean has(int area) {
            return area >= 0 && area < size;
        }

        int addArea(int kind, boolean center, int home) {
            int area = size;
            size++;
            homes[area] = home;
            if (kind == SEA) {
                seas |= bit(area);
            }
            if (center) {
                centers |= bit(area);
            }
            return area;
        }

        boolean join(int a, int b) {
            if (in(neighbours[a], b)) {
                return false;
            }
            neighbours[a] |= bit(b);
            neighbours[b] |= bit(a);
            return true;
        }

        boolean isSea(int area) {
            return in(seas, area);
        }

        boolean canGo(int kind, int from, int to) {
            boolean overWater = isSea(from) || isSea(to);
            return in(neighbours[from], to) && overWater == (kind == FLEET);
        }

        boolean canStand(int kind, int area) {
            if (kind == ARMY) {
                return !isSea(area);
            }
            return isSea(area) || (neighbours[area] & seas) != 0;
        }
    }

    /** What a turn changes, and undo brings back. Nobody stands aside in ORDERS, so that isn't part of it. */
    private static final class Sheet {
        int turnNumber;
        final int[] units = new int[AREAS];
        final int[] orders = new int[AREAS];
        final int[] xs = new int[AREAS];
        final int[] ys = new int[AREAS];
        final int[] outcomes = new int[AREAS];
        final int[] owners = new int[AREAS];

        Sheet() {
            Arrays.fill(units, NONE);
            Arrays.fill(owners, NONE);
        }

        void copyFrom(Sheet other) {
            turnNumber = other.turnNumber;
            System.arraycopy(other.units, 0, units, 0, AREAS);
            System.arraycopy(other.orders, 0, orders, 0, AREAS);
            System.arraycopy(other.xs, 0, xs, 0, AREAS);
            System.arraycopy(other.ys, 0, ys, 0, AREAS);
            System.arraycopy(other.outcomes, 0, outcomes, 0, AREAS);
            System.arraycopy(other.owners, 0, owners, 0, AREAS);
        }

        boolean hasUnit(int area) {
            return units[area] != NONE;
        }

        int playerAt(int area) {
            return units[area] / 2;
        }

        int kindAt(int area) {
            return units[area] % 2;
        }

        void write(int area, int kind, int x, int y) {
            orders[area] = kind;
            xs[area] = x;
            ys[area] = y;
        }

        void holdAll() {
            Arrays.fill(orders, HOLD);
            Arrays.fill(xs, 0);
            Arrays.fill(ys, 0);
        }

        int centersOf(int player) {
            int found = 0;
            for (int area = 0; area < AREAS; area++) {
                if (owners[area] == player) {
                    found++;
                }
            }
            return found;
        }

        int unitsOf(int player) {
            int found = 0;
            for (int area = 0; area < AREAS; area++) {
                if (hasUnit(area) && playerAt(area) == player) {
                    found++;
                }
            }
            return found;
        }

        /** Below zero: that many are too many. */
        int missingUnits(int player) {
            return centersOf(player) - unitsOf(player);
        }
    }

    /** The sheets before the last eight resolves; a ninth takes the oldest one's place. */
    private static final class Past {
        private static final int DEPTH = 8;

        private final Sheet[] kept = new Sheet[DEPTH];
        private int next;
        private int left;

        Past() {
            for (int i = 0; i < DEPTH; i++) {
                kept[i] = new Sheet();
            }
        }

        void keep(Sheet sheet) {
            kept[next].copyFrom(sheet);
            next = (next + 1) % DEPTH;
            left = Math.min(left + 1, DEPTH);
        }

        boolean takeBack(Sheet sheet) {
            if (left == 0) {
                return false;
            }
            next = (next + DEPTH - 1) % DEPTH;
            left--;
            sheet.copyFrom(kept[next]);
            return true;
        }
    }

    /** The displaced units, by the areas that they lost. */
    private static final class Aside {
        final int[] units = new int[AREAS];
        final int[] origins = new int[AREAS];
        final int[] goals = new int[AREAS];
        int contested;

        Aside() {
            Arrays.fill(units, NONE);
            Arrays.fill(origins, NONE);
            Arrays.fill(goals, NONE);
        }

        void clear() {
            Arrays.fill(units, NONE);
            Arrays.fill(origins, NONE);
            Arrays.fill(goals, NONE);
            contested = 0;
        }

        boolean hasUnit(int area) {
            return units[area] != NONE;
        }

        boolean isEmpty() {
            for (int area = 0; area < AREAS; area++) {
                if (hasUnit(area)) {
                    return false;
                }
            }
            return true;
        }

        void retreatTo(Sheet sheet) {
            for (int area = 0; area < AREAS; area++) {
                if (goals[area] != NONE && !isSharedGoal(area)) {
                    sheet.units[goals[area]] = units[area];
                }
            }
            clear();
        }

        private boolean isSharedGoal(int area) {
            for (int other = 0; other < AREAS; other++) {
                if (other != area && goals[other] == goals[area]) {
                    return true;
                }
            }
            return false;
        }
    }

    /**
     * Finds out which MOVES succeed and which SUPPORTS are given. An order is named by the area of its unit; it is
     * sure (so), open, or neither (not so). Numbers that hang on open ones are asked for with most true for the
     * greatest one, false for the least one.
     */
    private static final class Settling {
        private final WarMap map;
        private final Sheet sheet;

        private int standing;
        private int moves;
        private int seaMoves;
        private int headOn;
        // By area: the MOVES to it, the SUPPORTS for its unit that aren't void, the fleets that carry its unit's MOVE.
        private final int[] movesTo = new int[AREAS];
        private final int[] backers = new int[AREAS];
        private final int[] carriers = new int[AREAS];
        private final int[] unitsOfPlayer = new int[PLAYERS];

        private int sure;
        private int open;
        private int sureDisplaced;
        private int openDisplaced;
        private int surePaths;
        private int openPaths;

        private final int[] lifted = new int[AREAS];

        Settling(WarMap map, Sheet sheet) {
            this.map = map;
            this.sheet = sheet;
        }

        void settle() {
            clear();
            readUnits();
            readHeadOn();
            readHelpers();
            lookForDisplaced();
            lookForPaths();
            // Each pass settles one order at least, if not by certainty, then as a leftover.
            for (int pass = 0; pass < AREAS && open != 0; pass++) {
                int before = open;
                settleWhatIsCertain();
                if (open == before) {
                    settleLeftovers();
                }
            }
        }

        int successes() {
            return Integer.bitCount(sure & moves);
        }

        void writeOutcomes() {
            for (int area = 0; area < AREAS; area++) {
                sheet.outcomes[area] = in(standing, area) ? outcome(area) : 0;
            }
        }

        void moveUnits(Aside aside) {
            aside.clear();
            for (int area = 0; area < map.size; area++) {
                lifted[area] = sheet.units[area];
                if (in(sureDisplaced, area)) {
                    aside.units[area] = lifted[area];
                }
                if (in(sureDisplaced | (sure & moves), area)) {
                    sheet.units[area] = NONE;
                }
            }
            for (int area = 0; area < map.size; area++) {
                if (in(sure & moves, area)) {
                    int to = sheet.xs[area];
                    sheet.units[to] = lifted[area];
                    aside.origins[to] = in(seaMoves, area) ? NONE : area;
                }
            }
            aside.contested = contestedAreas();
        }

        private int outcome(int area) {
            if (in(sureDisplaced, area)) {
                return WAS_DISPLACED;
            }
            if (sheet.orders[area] == MOVE && !in(sure, area)) {
                return MOVE_FAILED;
            }
            if (sheet.orders[area] == SUPPORT && !in(sure, area)) {
                return SUPPORT_FAILED;
            }
            return SUCCEEDED;
        }

        private int contestedAreas() {
            int contested = 0;
            for (int area = 0; area < map.size; area++) {
                if (in(moves & surePaths & ~sure, area) && !sheet.hasUnit(sheet.xs[area])) {
                    contested |= bit(sheet.xs[area]);
                }
            }
            return contested;
        }

        private void clear() {
            standing = 0;
            moves = 0;
            seaMoves = 0;
            headOn = 0;
            sure = 0;
            open = 0;
            Arrays.fill(movesTo, 0);
            Arrays.fill(backers, 0);
            Arrays.fill(carriers, 0);
            Arrays.fill(unitsOfPlayer, 0);
        }

        private void readUnits() {
            for (int area = 0; area < map.size; area++) {
                if (!sheet.hasUnit(area)) {
                    continue;
                }
                standing |= bit(area);
                unitsOfPlayer[sheet.playerAt(area)] |= bit(area);
                if (sheet.orders[area] == MOVE) {
                    moves |= bit(area);
                    movesTo[sheet.xs[area]] |= bit(area);
                    if (!map.canGo(sheet.kindAt(area), area, sheet.xs[area])) {
                        seaMoves |= bit(area);
                    }
                }
            }
            open = moves;
        }

        private void readHeadOn() {
            int direct = moves & ~seaMoves;
            for (int area = 0; area < map.size; area++) {
                if (in(direct, area) && in(direct & movesTo[area], sheet.xs[area])) {
                    headOn |= bit(area);
                }
            }
        }

        private void readHelpers() {
            for (int area = 0; area < map.size; area++) {
                if (!in(standing, area)) {
                    continue;
                }
                int x = sheet.xs[area];
                int y = sheet.ys[area];
                boolean isMove = in(movesTo[y], x);
                boolean isStaying = x == y && !in(moves, x);
                if (sheet.orders[area] == SUPPORT && (isMove || isStaying)) {
                    backers[x] |= bit(area);
                    open |= bit(area);
                }
                if (sheet.orders[area] == CONVOY && isMove) {
                    carriers[x] |= bit(area);
                }
            }
        }

        private void settleWhatIsCertain() {
            for (int area = 0; area < map.size; area++) {
                if (in(open & moves, area)) {
                    settleMove(area);
                } else if (in(open, area)) {
                    settleSupport(area);
                }
            }
        }

        private void settleMove(int move) {
            if (attack(move, false) > resistance(move, true)) {
                close(bit(move), true);
            } else if (attack(move, true) <= resistance(move, false)) {
                close(bit(move), false);
            }
        }

        private void settleSupport(int support) {
            int ownUnits = unitsOfPlayer[sheet.playerAt(support)];
            int cutters = movesTo[support] & ~ownUnits & ~bit(sheet.ys[support]);
            if (in(sureDisplaced, support) || (cutters & surePaths) != 0) {
                close(bit(support), false);
            } else if (!in(openDisplaced, support) && (cutters & openPaths) == 0) {
                close(bit(support), true);
            }
        }

        private void close(int orders, boolean so) {
            open &= ~orders;
            if (so) {
                sure |= orders;
            }
            // Paths hang on displacements, so these come first.
            lookForDisplaced();
            lookForPaths();
        }

        private void lookForDisplaced() {
            sureDisplaced = 0;
            openDisplaced = 0;
            for (int area = 0; area < map.size; area++) {
                boolean leaves = in(sure & moves, area);
                boolean mayLeave = in(open & moves, area);
                if (!in(standing, area) || leaves || (movesTo[area] & (sure | open)) == 0) {
                    continue;
                }
                if (!mayLeave && (movesTo[area] & sure) != 0) {
                    sureDisplaced |= bit(area);
                } else {
                    openDisplaced |= bit(area);
                }
            }
        }

        private void lookForPaths() {
            surePaths = moves & ~seaMoves;
            openPaths = 0;
            for (int area = 0; area < map.size; area++) {
                if (!in(seaMoves, area)) {
                    continue;
                }
                int mayCarry = carriers[area] & ~sureDisplaced;
                if (isChain(area, mayCarry & ~openDisplaced)) {
                    surePaths |= bit(area);
                } else if (isChain(area, mayCarry)) {
                    openPaths |= bit(area);
                }
            }
        }

        private boolean isChain(int move, int fleets) {
            int reached = map.neighbours[move] & fleets;
            for (int step = 0; step < AREAS; step++) {
                for (int area = 0; area < map.size; area++) {
                    if (in(reached, area)) {
                        reached |= map.neighbours[area] & fleets;
                    }
                }
            }
            return (reached & map.neighbours[sheet.xs[move]]) != 0;
        }

        /** 1 and the supports for what the unit does, be it a MOVE or staying. */
        private int force(int area, int leftOut, boolean most) {
            int counted = most ? sure | open : sure;
            return 1 + Integer.bitCount(backers[area] & counted & ~leftOut);
        }

        private int attack(int move, boolean most) {
            if (!in(most ? surePaths | openPaths : surePaths, move)) {
                return 0;
            }
            int to = sheet.xs[move];
            int leaving = moves & (most ? sure | open : sure);
            if (!in(standing, to) || (in(leaving, to) && !in(headOn, move))) {
                return force(move, 0, most);
            }
            int defender = sheet.playerAt(to);
            if (defender == sheet.playerAt(move)) {
                return 0;
            }
            return force(move, unitsOfPlayer[defender], most);
        }

        /** The greatest of all that the MOVE must be greater than. */
        private int resistance(int move, boolean most) {
            int to = sheet.xs[move];
            int strongest = in(headOn, move) ? force(to, 0, most) : defence(to, most);
            for (int other = 0; other < map.size; other++) {
                if (other != move && in(movesTo[to], other)) {
                    strongest = Math.max(strongest, prevention(other, most));
                }
            }
            return strongest;
        }

        private int defence(int area, boolean most) {
            if (!in(standing, area)) {
                return 0;
            }
            if (in(moves, area)) {
                return in(most ? sure : sure | open, area) ? 0 : 1;
            }
            return force(area, 0, most);
        }

        private int prevention(int move, boolean most) {
            if (!in(most ? surePaths | openPaths : surePaths, move)) {
                return 0;
            }
            // The one that it is head-on with comes from where it goes.
            if (in(headOn, move) && in(most ? sure : sure | open, sheet.xs[move])) {
                return 0;
            }
            return force(move, 0, most);
        }

        private void settleLeftovers() {
            int openMoves = open & moves;
            int ring = ringOf(openMoves);
            if (ring != 0 && (ring & headOn) == 0 && !isEntered(ring, openMoves)) {
                close(ring, true);
            } else if ((openMoves & seaMoves) != 0) {
                close(openMoves & seaMoves, false);
            } else {
                close(Integer.lowestOneBit(openMoves), false);
            }
        }

        /** The ring that one comes into from the least area; no areas if one comes to an end. */
        private int ringOf(int openMoves) {
            int ring = 0;
            int area = Integer.numberOfTrailingZeros(openMoves);
            // After AREAS steps one is at the end or goes round; so many more pass all of the ring.
            for (int step = 0; step < 2 * AREAS; step++) {
                if (area >= AREAS || !in(openMoves, area)) {
                    return 0;
                }
                if (step >= AREAS) {
                    ring |= bit(area);
                }
                area = sheet.xs[area];
            }
            return ring;
        }

        private boolean isEntered(int ring, int openMoves) {
            for (int area = 0; area < map.size; area++) {
                if (in(openMoves & ~ring, area) && in(ring, sheet.xs[area])) {
                    return true;
                }
            }
            return false;
        }
    }
}
