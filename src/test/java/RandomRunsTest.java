import java.util.ArrayList;
import java.util.List;
import java.util.Random;
import java.util.function.LongSupplier;

/**
 * Long runs of calls, made from fixed seeds, on SheetWar and on PlainWar at once: each answer must be the same.
 * The runs keep away from what the document leaves open, and from more than 512 calls.
 */
public final class RandomRunsTest {
    private static final int RUNS = 8000;
    private static final int MOST_CALLS = 512;
    private static final long ARGUMENT = Long.MIN_VALUE;
    private static final long STATE = Long.MIN_VALUE + 1;

    private final Random dice;
    private final SheetWar war = new SheetWar();
    private final PlainWar plain = new PlainWar();
    private final StringBuilder log = new StringBuilder();
    private int calls;
    private int size;
    private final boolean[] isSea = new boolean[12];
    private final boolean[][] joined = new boolean[12][12];
    private boolean same = true;

    private RandomRunsTest(long seed) {
        dice = new Random(seed);
    }

    public static void main(String[] args) {
        int runs = args.length > 0 ? Integer.parseInt(args[0]) : RUNS;
        int[] reached = new int[3];
        int ringsRefused = 0;
        for (int seed = 1; seed <= runs; seed++) {
            RandomRunsTest run = new RandomRunsTest(seed);
            run.play();
            if (!run.same) {
                System.out.println("seed " + seed + ":\n" + run.log);
                System.exit(1);
            }
            reached[0] += run.plain.ringsSucceeded;
            reached[1] += run.plain.seaMovesFailed;
            reached[2] += run.plain.leastMovesFailed;
            ringsRefused += run.plain.ringsRefused;
        }
        System.out.println("leftovers: " + reached[0] + " rings went round, " + ringsRefused + " did not, "
                + reached[1] + " times sea moves failed, " + reached[2] + " times the least one");
        for (int n : reached) {
            if (n == 0) {
                System.out.println("the runs do not reach every rule for leftovers");
                System.exit(1);
            }
        }
    }

    private long both(String call, LongSupplier mine, LongSupplier due) {
        if (!same) {
            return 0;
        }
        calls++;
        if (calls > MOST_CALLS) {
            throw new IllegalStateException("the run is too long");
        }
        long got = answer(mine);
        long want = answer(due);
        log.append(call).append(" answered ").append(name(got)).append('\n');
        if (got != want) {
            log.append("    due is ").append(name(want)).append('\n');
            same = false;
        }
        return want;
    }

    private static long answer(LongSupplier call) {
        try {
            return call.getAsLong();
        } catch (IllegalArgumentException e) {
            return ARGUMENT;
        } catch (IllegalStateException e) {
            return STATE;
        }
    }

    private static String name(long answer) {
        if (answer == ARGUMENT) {
            return "IllegalArgumentException";
        }
        return answer == STATE ? "IllegalStateException" : Long.toString(answer);
    }

    private static long number(boolean b) {
        return b ? 1 : 0;
    }

    private boolean chance(double p) {
        return dice.nextDouble() < p;
    }

    private int pick(int bound) {
        return dice.nextInt(bound);
    }

    private int someArea() {
        return pick(size);
    }

    /** Mostly an area, now and then a number beside them. */
    private int nearlyArea() {
        return chance(0.04) ? (chance(0.5) ? -1 - pick(3) : size + pick(3)) : someArea();
    }

    private int nearlyPlayer() {
        return chance(0.04) ? (chance(0.5) ? -1 : 4) : pick(4);
    }

    private void play() {
        setUp();
        ask();
        callInWrongPhase();
        both("start()", () -> {
            war.start();
            return 0;
        }, () -> {
            plain.start();
            return 0;
        });
        int resolves = 0;
        // Not more than eight resolves: how many can be taken back after a mixture is not for this test.
        while (same && resolves < 8 && calls < MOST_CALLS - 150) {
            if (chance(0.1)) {
                both("undo()", () -> number(war.undo()), () -> number(plain.undo()));
                ask();
            }
            writeOrders();
            ask();
            callInWrongPhase();
            both("resolve()", war::resolve, plain::resolve);
            resolves++;
            askAll();
            // The crowd of the beginning is worth more than one look.
            if (chance(0.3)) {
                both("undo()", () -> number(war.undo()), () -> number(plain.undo()));
                continue;
            }
            if (plain.phase() == 2) {
                retreatAll();
            }
            if (plain.phase() == 3) {
                buildAll();
            }
        }
    }

    private void setUp() {
        double seas = new double[] {0, 0.25, 0.4, 0.6}[pick(4)];
        double density = new double[] {0.25, 0.4, 0.6, 0.9}[pick(4)];
        double crowd = new double[] {0.5, 0.8, 1}[pick(3)];
        int players = 1 + pick(4);
        int wanted = chance(0.1) ? pick(4) : 4 + pick(9);
        for (int i = 0; i < wanted; i++) {
            int kind = chance(seas) ? 1 : 0;
            boolean center = kind == 0 && chance(0.5);
            int home = center && chance(0.7) ? pick(players) : -1;
            area(kind, center, home);
            if (chance(0.05) && size < 12) {
                area(pick(4) - 1, chance(0.5), pick(7) - 2);
            }
        }
        for (int a = 0; a < size; a++) {
            for (int b = a + 1; b < size; b++) {
                if (chance(density)) {
                    border(chance(0.5) ? a : b, chance(0.5) ? b : a);
                }
            }
        }
        for (int i = 0; i < 3; i++) {
            border(pick(size + 2) - 1, pick(size + 2) - 1);
        }
        for (int a = 0; a < size; a++) {
            if (chance(crowd)) {
                unit(a, pick(players), chance(0.5) ? 1 : 0);
                unit(a, pick(players), 0);
            }
        }
        if (size > 0) {
            unit(someArea(), pick(4), pick(2));
        }
        unit(chance(0.5) ? -1 : size, nearlyPlayer(), pick(4) - 1);
    }

    private void area(int kind, boolean center, int home) {
        long made = both("area(" + kind + ", " + center + ", " + home + ")",
                () -> war.area(kind, center, home), () -> plain.area(kind, center, home));
        if (made >= 0) {
            isSea[size] = kind == 1;
            size++;
        }
    }

    private void border(int a, int b) {
        long answer = both("border(" + a + ", " + b + ")", () -> number(war.border(a, b)),
                () -> number(plain.border(a, b)));
        if (answer == 1) {
            joined[a][b] = true;
            joined[b][a] = true;
        }
    }

    private void unit(int area, int player, int kind) {
        both("unit(" + area + ", " + player + ", " + kind + ")", () -> {
            war.unit(area, player, kind);
            return 0;
        }, () -> {
            plain.unit(area, player, kind);
            return 0;
        });
    }

    private long order(int player, int area, int kind, int x, int y) {
        return both("order(" + player + ", " + area + ", " + kind + ", " + x + ", " + y + ")",
                () -> war.order(player, area, kind, x, y), () -> plain.order(player, area, kind, x, y));
    }

    private void writeOrders() {
        if (size == 0) {
            return;
        }
        List<int[]> moves = new ArrayList<>();
        double bustle = new double[] {0.3, 0.5, 0.9}[pick(3)];
        int[] wanted = {someArea(), someArea()};
        for (int a = 0; a < size; a++) {
            if (plain.at(a) >= 0) {
                int to = chance(bustle) ? likelyGoal(a, wanted) : -1;
                // Orders that undo brought back are written over.
                if (to < 0) {
                    order(plain.at(a) / 2, a, 0, 0, 0);
                } else if (order(plain.at(a) / 2, a, 1, to, pick(size)) == 0) {
                    moves.add(new int[] {a, to});
                }
            }
        }
        int knots = chance(0.4) ? 1 + pick(2) : 0;
        for (int i = 0; i < 60 && knots > 0 && calls < MOST_CALLS - 130; i++) {
            if (hangOnItself(moves)) {
                knots--;
            }
        }
        for (int a = 0; a < size; a++) {
            if (plain.at(a) >= 0 && plain.told(a, 0) == 0 && calls < MOST_CALLS - 120) {
                helpSomebody(a, moves);
            }
        }
        order(nearlyPlayer(), nearlyArea(), pick(5), nearlyArea(), nearlyArea());
    }

    /** Tries for what chance hardly brings: an army goes by sea to where an attack on its carrier is supported. */
    private boolean hangOnItself(List<int[]> moves) {
        int army = someUnit(0);
        int carrier = someUnit(1);
        int target = someUnit(1);
        int attacker = someUnit(1);
        boolean differ = carrier != target && attacker != carrier && attacker != target;
        if (army < 0 || carrier < 0 || target < 0 || attacker < 0) {
            return false;
        }
        if (!differ || !isSea[carrier] || !joined[carrier][attacker]) {
            return false;
        }
        if (!joined[army][carrier] || !joined[carrier][target] || joined[army][target] || isSea[target]) {
            return false;
        }
        order(plain.at(army) / 2, army, 1, target, 0);
        order(plain.at(carrier) / 2, carrier, 3, army, target);
        order(plain.at(target) / 2, target, 2, attacker, carrier);
        order(plain.at(attacker) / 2, attacker, 1, carrier, 0);
        for (int a = 0; a < size; a++) {
            boolean free = a != army && a != carrier && a != target && a != attacker;
            if (free && plain.at(a) >= 0 && joined[a][target] && chance(0.7)) {
                order(plain.at(a) / 2, a, 2, army, target);
            }
        }
        moves.add(new int[] {army, target});
        moves.add(new int[] {attacker, carrier});
        return true;
    }

    private int someUnit(int kind) {
        for (int tries = 0; tries < 20; tries++) {
            int a = someArea();
            if (plain.at(a) >= 0 && plain.at(a) % 2 == kind) {
                return a;
            }
        }
        return -1;
    }

    private boolean canGo(int a, int to) {
        return joined[a][to] && (isSea[a] || isSea[to]) == (plain.at(a) % 2 == 1);
    }

    /** Mostly a place to which the unit can have a MOVE, and rather a wanted one, or one where somebody is. */
    private int likelyGoal(int a, int[] wanted) {
        boolean overSea = plain.at(a) % 2 == 0 && chance(0.4);
        for (int tries = 0; tries < 30; tries++) {
            int to = tries < 2 && chance(0.7) ? wanted[tries] : someArea();
            boolean fits = canGo(a, to) || (overSea && !isSea[to]);
            if (fits && to != a && (tries < 2 || plain.at(to) >= 0 || chance(0.3))) {
                return to;
            }
        }
        return chance(0.1) ? someArea() : -1;
    }

    /** A move that is there gets help more often than chance would bring it. */
    private void helpSomebody(int a, List<int[]> moves) {
        int player = plain.at(a) / 2;
        if (chance(0.05)) {
            order(player, a, 2 + pick(2), someArea(), someArea());
            return;
        }
        for (int tries = 0; tries < 12; tries++) {
            int[] move = moves.isEmpty() || chance(0.25) ? null : moves.get(pick(moves.size()));
            int x = move == null ? someArea() : move[0];
            int y = move == null ? x : move[1];
            boolean overSea = plain.at(x) >= 0 && plain.at(x) % 2 == 0 && x != y && !canGo(x, y);
            if (isSea[a] && overSea && chance(0.8)) {
                order(player, a, 3, x, y);
                return;
            }
            if (x != a && y != a && plain.at(x) >= 0 && canGo(a, y)) {
                order(player, a, 2, x, y);
                return;
            }
        }
    }

    private void ask() {
        int a = chance(0.1) ? farNumber() : pick(size + 2) - 1;
        int what = pick(5) - 1;
        both("told(" + a + ", " + what + ")", () -> war.told(a, what), () -> plain.told(a, what));
        both("at(" + a + ")", () -> war.at(a), () -> plain.at(a));
        both("result(" + a + ")", () -> war.result(a), () -> plain.result(a));
        both("owner(" + a + ")", () -> war.owner(a), () -> plain.owner(a));
        int player = pick(6) - 1;
        int counted = pick(4) - 1;
        // Whether displaced units are counted the document does not tell.
        if (plain.phase() != 2 || counted != 1) {
            both("count(" + player + ", " + counted + ")", () -> war.count(player, counted),
                    () -> plain.count(player, counted));
        }
        both("phase()", war::phase, plain::phase);
        both("turn()", war::turn, plain::turn);
    }

    private int farNumber() {
        return chance(0.5) ? Integer.MIN_VALUE : Integer.MAX_VALUE;
    }

    private void askAll() {
        for (int i = 0; i < size; i++) {
            int a = i;
            both("result(" + a + ")", () -> war.result(a), () -> plain.result(a));
            both("at(" + a + ")", () -> war.at(a), () -> plain.at(a));
            if (plain.displaced(a) >= 0 || chance(0.2)) {
                both("displaced(" + a + ")", () -> war.displaced(a), () -> plain.displaced(a));
            }
        }
        ask();
    }

    private void mayGo(int a, int to) {
        both("mayGo(" + a + ", " + to + ")", () -> number(war.mayGo(a, to)), () -> number(plain.mayGo(a, to)));
    }

    private void retreatAll() {
        for (int a = 0; a < size; a++) {
            if (plain.displaced(a) < 0) {
                continue;
            }
            for (int tries = 0; tries < 4 && calls < MOST_CALLS - 60; tries++) {
                int to = someArea();
                mayGo(a, to);
                retreat(chance(0.9) ? plain.displaced(a) / 2 : pick(4), a, to);
            }
        }
        retreat(nearlyPlayer(), nearlyArea(), nearlyArea());
        mayGo(nearlyArea(), nearlyArea());
        callInWrongPhase();
        if (chance(0.1)) {
            both("undo()", () -> number(war.undo()), () -> number(plain.undo()));
        } else {
            both("finish()", war::finish, plain::finish);
        }
        ask();
    }

    private void retreat(int player, int a, int to) {
        both("retreat(" + player + ", " + a + ", " + to + ")", () -> war.retreat(player, a, to),
                () -> plain.retreat(player, a, to));
    }

    private void buildAll() {
        for (int tries = 0; tries < 10 && calls < MOST_CALLS - 40; tries++) {
            int a = nearlyArea();
            int kind = pick(3);
            int player = plain.at(a) >= 0 && chance(0.6) ? plain.at(a) / 2 : nearlyPlayer();
            if (kind < 2 && !plain.hasPlace(player) && plain.count(player, 0) > plain.count(player, 1)) {
                // Whether it is no time or no place for them the document does not tell.
                continue;
            }
            both("build(" + player + ", " + a + ", " + kind + ")", () -> war.build(player, a, kind),
                    () -> plain.build(player, a, kind));
        }
        callInWrongPhase();
        if (chance(0.1)) {
            both("undo()", () -> number(war.undo()), () -> number(plain.undo()));
        } else {
            both("finish()", war::finish, plain::finish);
        }
        ask();
    }

    /** A call that is not for this phase, with arguments that are fine. */
    private void callInWrongPhase() {
        if (size < 2) {
            return;
        }
        int phase = plain.phase();
        int a = someArea();
        int b = (a + 1) % size;
        switch (pick(8)) {
            case 0:
                if (phase != 0) {
                    both("area(0, false, -1)", () -> war.area(0, false, -1), () -> plain.area(0, false, -1));
                }
                break;
            case 1:
                if (phase != 0) {
                    border(a, b);
                }
                break;
            case 2:
                if (phase != 0) {
                    unit(a, 0, 0);
                }
                break;
            case 3:
                if (phase != 1) {
                    order(0, a, 0, 0, 0);
                }
                break;
            case 4:
                if (phase != 1) {
                    both("resolve()", war::resolve, plain::resolve);
                }
                break;
            case 5:
                if (phase != 2) {
                    retreat(0, a, b);
                }
                break;
            case 6:
                if (phase != 3) {
                    both("build(0, a, 2)", () -> war.build(0, a, 2), () -> plain.build(0, a, 2));
                }
                break;
            default:
                if (phase < 2) {
                    both("finish()", war::finish, plain::finish);
                }
                break;
        }
    }
}
