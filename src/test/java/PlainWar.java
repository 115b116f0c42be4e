import java.util.ArrayDeque;
import java.util.ArrayList;
import java.util.Deque;
import java.util.HashMap;
import java.util.HashSet;
import java.util.List;
import java.util.Map;
import java.util.Set;
import java.util.TreeMap;

/**
 * The document once more, word by word and with no care for speed: what RandomRunsTest compares SheetWar with.
 * It shares no code and no way of holding things with SheetWar, so that a slip in one of them shows.
 */
final class PlainWar {
    enum Sure { YES, NO, OPEN }

    record Unit(int player, int kind) {
        int code() {
            return 2 * player + kind;
        }
    }

    record Order(int kind, int x, int y) {
        static final Order HOLD = new Order(0, 0, 0);

        boolean isMove() {
            return kind == 1;
        }
    }

    record Area(int kind, boolean center, int home) { }

    record Range(int least, int greatest) {
        static final Range ZERO = new Range(0, 0);

        static Range hull(Range a, Range b) {
            return new Range(Math.min(a.least, b.least), Math.max(a.greatest, b.greatest));
        }
    }

    record Snapshot(Map<Integer, Unit> units, Map<Integer, Order> orders, Map<Integer, Integer> results,
            Map<Integer, Integer> owners, int turn) { }

    private final List<Area> areas = new ArrayList<>();
    private final Set<List<Integer>> borders = new HashSet<>();
    private Map<Integer, Unit> units = new TreeMap<>();
    private Map<Integer, Order> orders = new TreeMap<>();
    private Map<Integer, Integer> results = new TreeMap<>();
    private Map<Integer, Integer> owners = new TreeMap<>();
    private final Map<Integer, Unit> aside = new TreeMap<>();
    private final Map<Integer, Integer> attackedFrom = new HashMap<>();
    private final Map<Integer, Integer> retreats = new TreeMap<>();
    private final Set<Integer> contested = new HashSet<>();
    private final Deque<Snapshot> past = new ArrayDeque<>();
    private int phase;
    private int turn;

    private final Map<Integer, Sure> state = new TreeMap<>();

    /** How often each of the rules for leftovers was needed: so a test can tell that its runs came there. */
    int ringsSucceeded;
    int ringsRefused;
    int seaMovesFailed;
    int leastMovesFailed;

    private boolean isArea(int a) {
        return 0 <= a && a < areas.size();
    }

    private boolean isPlayer(int p) {
        return 0 <= p && p <= 3;
    }

    private boolean doBorder(int a, int b) {
        return borders.contains(List.of(a, b));
    }

    private boolean sea(int a) {
        return areas.get(a).kind == 1;
    }

    private boolean canGo(Unit u, int from, int to) {
        if (from == to || !doBorder(from, to)) {
            return false;
        }
        if (u.kind == 0) {
            return !sea(from) && !sea(to);
        }
        return sea(from) || sea(to);
    }

    private boolean canBe(int kind, int a) {
        if (kind == 0) {
            return !sea(a);
        }
        if (sea(a)) {
            return true;
        }
        for (int b = 0; b < areas.size(); b++) {
            if (doBorder(a, b) && sea(b)) {
                return true;
            }
        }
        return false;
    }

    private static void needArgument(boolean fine) {
        if (!fine) {
            throw new IllegalArgumentException();
        }
    }

    private static void needState(boolean fine) {
        if (!fine) {
            throw new IllegalStateException();
        }
    }

    int area(int kind, boolean center, int home) {
        needArgument(kind == 0 || kind == 1);
        needArgument(home >= -1 && home <= 3);
        needArgument(!(center && kind == 1));
        needArgument(!(home != -1 && !center));
        needState(phase == 0 && areas.size() < 12);
        areas.add(new Area(kind, center, home));
        owners.put(areas.size() - 1, home);
        return areas.size() - 1;
    }

    boolean border(int a, int b) {
        needArgument(isArea(a) && isArea(b) && a != b);
        needState(phase == 0);
        boolean fresh = borders.add(List.of(a, b));
        borders.add(List.of(b, a));
        return fresh;
    }

    void unit(int a, int player, int kind) {
        needArgument(isArea(a) && isPlayer(player) && (kind == 0 || kind == 1));
        needState(phase == 0 && !units.containsKey(a) && canBe(kind, a));
        units.put(a, new Unit(player, kind));
    }

    void start() {
        needState(phase == 0);
        nextTurn();
    }

    private void nextTurn() {
        turn++;
        phase = 1;
        orders = new TreeMap<>();
        for (int a : units.keySet()) {
            orders.put(a, Order.HOLD);
        }
    }

    int order(int player, int a, int kind, int x, int y) {
        needArgument(isPlayer(player) && isArea(a) && kind >= 0 && kind <= 3);
        needArgument(kind == 0 || isArea(x));
        needArgument(kind <= 1 || isArea(y));
        needState(phase == 1);
        Unit u = units.get(a);
        if (u == null || u.player != player) {
            return 1;
        }
        Unit other = kind == 0 ? null : units.get(x);
        boolean can = switch (kind) {
            case 0 -> true;
            case 1 -> canGo(u, a, x) || u.kind == 0 && x != a && !sea(x);
            case 2 -> x != a && y != a && canGo(u, a, y) && other != null;
            default -> u.kind == 1 && sea(a) && other != null && other.kind == 0 && !sea(y) && y != x;
        };
        if (!can) {
            return 2;
        }
        orders.put(a, new Order(kind, kind == 0 ? 0 : x, kind <= 1 ? 0 : y));
        return 0;
    }

    // ---- settling

    private boolean moves(int a) {
        return orders.containsKey(a) && orders.get(a).isMove();
    }

    private boolean movesTo(int a, int b) {
        return moves(a) && orders.get(a).x == b;
    }

    private boolean bySea(int m) {
        return !canGo(units.get(m), m, orders.get(m).x);
    }

    private boolean headOn(int m, int n) {
        return movesTo(m, n) && movesTo(n, m) && !bySea(m) && !bySea(n);
    }

    private boolean isFor(int s, int a) {
        Order o = orders.get(s);
        if (o.kind != 2 || o.x != a || !units.containsKey(a)) {
            return false;
        }
        return moves(a) ? orders.get(a).x == o.y : o.y == a;
    }

    private Sure displacement(int a) {
        boolean one = false;
        boolean oneOpen = false;
        for (int m : orders.keySet()) {
            if (movesTo(m, a)) {
                one |= state.get(m) == Sure.YES;
                oneOpen |= state.get(m) == Sure.OPEN;
            }
        }
        if (one && (!moves(a) || state.get(a) == Sure.NO)) {
            return Sure.YES;
        }
        if (!one && !oneOpen || moves(a) && state.get(a) == Sure.YES) {
            return Sure.NO;
        }
        return Sure.OPEN;
    }

    private Sure path(int m) {
        if (!bySea(m)) {
            return Sure.YES;
        }
        if (chain(m, m, new HashSet<>(), false)) {
            return Sure.YES;
        }
        return chain(m, m, new HashSet<>(), true) ? Sure.OPEN : Sure.NO;
    }

    /** Whether from an area fleets, not in used, lead on to where m goes. */
    private boolean chain(int m, int from, Set<Integer> used, boolean openToo) {
        for (int f : orders.keySet()) {
            Order o = orders.get(f);
            if (o.kind != 3 || o.x != m || o.y != orders.get(m).x || used.contains(f) || !doBorder(from, f)) {
                continue;
            }
            Sure gone = displacement(f);
            if (gone == Sure.YES || gone == Sure.OPEN && !openToo) {
                continue;
            }
            used.add(f);
            if (doBorder(f, orders.get(m).x) || chain(m, f, used, openToo)) {
                return true;
            }
        }
        return false;
    }

    private Range force(int a, int withoutPlayer) {
        int given = 0;
        int open = 0;
        for (int s : orders.keySet()) {
            if (isFor(s, a) && units.get(s).player != withoutPlayer) {
                given += state.get(s) == Sure.YES ? 1 : 0;
                open += state.get(s) == Sure.OPEN ? 1 : 0;
            }
        }
        return new Range(1 + given, 1 + given + open);
    }

    private Range withPath(int m, Range range) {
        return switch (path(m)) {
            case NO -> Range.ZERO;
            case YES -> range;
            default -> Range.hull(Range.ZERO, range);
        };
    }

    private Range attack(int m) {
        int to = orders.get(m).x;
        Unit there = units.get(to);
        if (there == null) {
            return withPath(m, force(m, -1));
        }
        Range free = force(m, -1);
        Range against = there.player == units.get(m).player ? Range.ZERO : force(m, there.player);
        if (!moves(to) || headOn(m, to) || state.get(to) == Sure.NO) {
            return withPath(m, against);
        }
        return withPath(m, state.get(to) == Sure.YES ? free : Range.hull(free, against));
    }

    private Range hold(int a) {
        if (!units.containsKey(a)) {
            return Range.ZERO;
        }
        if (!moves(a)) {
            return force(a, -1);
        }
        return switch (state.get(a)) {
            case YES -> Range.ZERO;
            case NO -> new Range(1, 1);
            default -> new Range(0, 1);
        };
    }

    private Range prevents(int m) {
        int to = orders.get(m).x;
        Range full = force(m, -1);
        if (headOn(m, to)) {
            if (state.get(to) == Sure.YES) {
                return Range.ZERO;
            }
            if (state.get(to) == Sure.OPEN) {
                full = Range.hull(Range.ZERO, full);
            }
        }
        return withPath(m, full);
    }

    private Sure verdictOnMove(int m) {
        int to = orders.get(m).x;
        List<Range> obstacles = new ArrayList<>();
        obstacles.add(headOn(m, to) ? force(to, -1) : hold(to));
        for (int n : orders.keySet()) {
            if (n != m && movesTo(n, to)) {
                obstacles.add(prevents(n));
            }
        }
        Range mine = attack(m);
        boolean beatsAll = true;
        boolean losesToOne = false;
        for (Range r : obstacles) {
            beatsAll &= mine.least > r.greatest;
            losesToOne |= mine.greatest <= r.least;
        }
        return beatsAll ? Sure.YES : losesToOne ? Sure.NO : Sure.OPEN;
    }

    private Sure verdictOnSupport(int s) {
        Sure gone = displacement(s);
        if (gone == Sure.YES) {
            return Sure.NO;
        }
        boolean safe = gone == Sure.NO;
        for (int m : orders.keySet()) {
            if (movesTo(m, s) && units.get(m).player != units.get(s).player && m != orders.get(s).y) {
                Sure path = path(m);
                if (path == Sure.YES) {
                    return Sure.NO;
                }
                safe &= path == Sure.NO;
            }
        }
        return safe ? Sure.YES : Sure.OPEN;
    }

    private void settle() {
        state.clear();
        for (int a : orders.keySet()) {
            if (moves(a)) {
                state.put(a, Sure.OPEN);
            } else if (orders.get(a).kind == 2) {
                state.put(a, isFor(a, orders.get(a).x) ? Sure.OPEN : Sure.NO);
            }
        }
        settleCertain();
        while (state.containsValue(Sure.OPEN)) {
            leftovers();
            settleCertain();
        }
    }

    private void settleCertain() {
        boolean changed = true;
        while (changed) {
            changed = false;
            for (int a : state.keySet()) {
                if (state.get(a) == Sure.OPEN) {
                    Sure now = moves(a) ? verdictOnMove(a) : verdictOnSupport(a);
                    changed |= now != Sure.OPEN;
                    state.put(a, now);
                }
            }
        }
    }

    private boolean openMove(int a) {
        return moves(a) && state.get(a) == Sure.OPEN;
    }

    private void leftovers() {
        List<Integer> open = new ArrayList<>();
        for (int a : state.keySet()) {
            if (openMove(a)) {
                open.add(a);
            }
        }
        List<Integer> walk = new ArrayList<>();
        int a = open.get(0);
        while (openMove(a) && !walk.contains(a)) {
            walk.add(a);
            a = orders.get(a).x;
        }
        if (walk.contains(a)) {
            List<Integer> ring = walk.subList(walk.indexOf(a), walk.size());
            if (ringMaySucceed(ring, open)) {
                ring.forEach(m -> state.put(m, Sure.YES));
                ringsSucceeded++;
                return;
            }
            ringsRefused++;
        }
        boolean some = false;
        for (int m : open) {
            if (bySea(m)) {
                state.put(m, Sure.NO);
                some = true;
            }
        }
        if (some) {
            seaMovesFailed++;
        } else {
            state.put(open.get(0), Sure.NO);
            leastMovesFailed++;
        }
    }

    private boolean ringMaySucceed(List<Integer> ring, List<Integer> open) {
        if (ring.size() == 2 && headOn(ring.get(0), ring.get(1))) {
            return false;
        }
        for (int m : open) {
            if (!ring.contains(m) && ring.contains(orders.get(m).x)) {
                return false;
            }
        }
        return true;
    }

    // ---- what comes then

    int resolve() {
        needState(phase == 1);
        past.push(new Snapshot(new TreeMap<>(units), new TreeMap<>(orders), new TreeMap<>(results),
                new TreeMap<>(owners), turn));
        if (past.size() > 8) {
            past.removeLast();
        }
        settle();
        int succeeded = 0;
        results = new TreeMap<>();
        Map<Integer, Unit> now = new TreeMap<>();
        clearAside();
        for (int a : orders.keySet()) {
            boolean displaced = displacement(a) == Sure.YES;
            boolean so = state.getOrDefault(a, Sure.YES) == Sure.YES;
            results.put(a, displaced ? 4 : so ? 1 : moves(a) ? 2 : 3);
            if (displaced) {
                aside.put(a, units.get(a));
            } else if (!(moves(a) && so)) {
                now.put(a, units.get(a));
            }
            if (moves(a) && so) {
                succeeded++;
                attackedFrom.put(orders.get(a).x, bySea(a) ? -1 : a);
            }
        }
        for (int a : orders.keySet()) {
            if (moves(a) && state.get(a) == Sure.YES) {
                if (now.put(orders.get(a).x, units.get(a)) != null) {
                    throw new AssertionError("two units in one area");
                }
            }
        }
        for (int a : orders.keySet()) {
            if (moves(a) && state.get(a) == Sure.NO && path(a) == Sure.YES && !now.containsKey(orders.get(a).x)) {
                contested.add(orders.get(a).x);
            }
        }
        units = now;
        if (aside.isEmpty()) {
            afterRetreats();
        } else {
            phase = 2;
        }
        return succeeded;
    }

    private void clearAside() {
        aside.clear();
        attackedFrom.clear();
        retreats.clear();
        contested.clear();
    }

    int result(int a) {
        return results.getOrDefault(a, 0);
    }

    int retreat(int player, int a, int to) {
        needArgument(isPlayer(player) && isArea(a) && isArea(to));
        needState(phase == 2);
        if (!aside.containsKey(a) || aside.get(a).player != player) {
            return 1;
        }
        if (!mayGo(a, to)) {
            return 2;
        }
        retreats.put(a, to);
        return 0;
    }

    int build(int player, int a, int kind) {
        needArgument(isPlayer(player) && isArea(a) && kind >= 0 && kind <= 2);
        needState(phase == 3);
        int missing = count(player, 0) - count(player, 1);
        if (kind == 2) {
            if (missing >= 0) {
                return 1;
            }
            if (!units.containsKey(a) || units.get(a).player != player) {
                return 2;
            }
            units.remove(a);
            return 0;
        }
        if (missing <= 0) {
            return 1;
        }
        if (!isPlace(player, a) || !canBe(kind, a)) {
            return 2;
        }
        units.put(a, new Unit(player, kind));
        return 0;
    }

    private boolean isPlace(int player, int a) {
        return areas.get(a).center && areas.get(a).home == player && owners.get(a) == player
                && !units.containsKey(a);
    }

    boolean hasPlace(int player) {
        for (int a = 0; a < areas.size(); a++) {
            if (isPlace(player, a)) {
                return true;
            }
        }
        return false;
    }

    int finish() {
        needState(phase == 2 || phase == 3);
        if (phase == 2) {
            for (Map.Entry<Integer, Integer> e : retreats.entrySet()) {
                if (retreats.values().stream().filter(e.getValue()::equals).count() == 1) {
                    units.put(e.getValue(), aside.get(e.getKey()));
                }
            }
            clearAside();
            afterRetreats();
        } else {
            for (int p = 0; p < 4; p++) {
                for (int a = areas.size() - 1; a >= 0; a--) {
                    if (count(p, 1) > count(p, 0) && units.containsKey(a) && units.get(a).player == p) {
                        units.remove(a);
                    }
                }
            }
            nextTurn();
        }
        return phase;
    }

    private void afterRetreats() {
        boolean builds = false;
        if (turn % 2 == 0) {
            for (int a : units.keySet()) {
                if (areas.get(a).center) {
                    owners.put(a, units.get(a).player);
                }
            }
            for (int p = 0; p < 4; p++) {
                int missing = count(p, 0) - count(p, 1);
                builds |= missing < 0 || missing > 0 && hasPlace(p);
            }
        }
        if (builds) {
            phase = 3;
        } else {
            nextTurn();
        }
    }

    boolean undo() {
        if (past.isEmpty()) {
            return false;
        }
        Snapshot s = past.pop();
        units = s.units;
        orders = s.orders;
        results = s.results;
        owners = s.owners;
        turn = s.turn;
        phase = 1;
        clearAside();
        return true;
    }

    int phase() {
        return phase;
    }

    int turn() {
        return turn;
    }

    int at(int a) {
        return units.containsKey(a) ? units.get(a).code() : -1;
    }

    int displaced(int a) {
        return aside.containsKey(a) ? aside.get(a).code() : -1;
    }

    boolean mayGo(int a, int to) {
        return aside.containsKey(a) && isArea(to) && canGo(aside.get(a), a, to) && !units.containsKey(to)
                && !contested.contains(to) && attackedFrom.get(a) != to;
    }

    int owner(int a) {
        return owners.getOrDefault(a, -1);
    }

    int count(int player, int what) {
        if (what == 0) {
            return isPlayer(player) ? (int) owners.values().stream().filter(o -> o == player).count() : 0;
        }
        return what == 1 ? (int) units.values().stream().filter(u -> u.player == player).count() : 0;
    }

    int told(int a, int what) {
        if (phase != 1 || !units.containsKey(a)) {
            return -1;
        }
        Order o = orders.get(a);
        return what == 0 ? o.kind : what == 1 ? o.x : what == 2 ? o.y : -1;
    }
}
