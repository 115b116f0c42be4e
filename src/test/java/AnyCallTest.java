import java.util.Random;
import java.util.function.Supplier;

/**
 * Any call with any arguments in any state: it answers something that the document knows, or throws one of the two
 * exceptions that it declares (LANGUAGE.md, rules 6 and 7). The numbers are thrown from fixed seeds.
 */
public final class AnyCallTest {
    private static final int OBJECTS = 3000;
    private static final int ENOUGH = 1000;
    private static final int MOST_CALLS = 512;
    private static final int NONE = SheetWar.NONE;
    private static final int[] FAR = {Integer.MIN_VALUE, Integer.MIN_VALUE + 1, -33, -32, -2, 12, 13, 16, 31, 32, 33,
        64, Integer.MAX_VALUE - 1, Integer.MAX_VALUE};
    private static final Check CHECK = new Check("AnyCallTest");

    private final Random dice;
    private final SheetWar war = new SheetWar();
    private final double crowd;
    private final double madness;
    private int calls;

    private AnyCallTest(long seed) {
        dice = new Random(seed);
        crowd = dice.nextDouble();
        madness = dice.nextInt(3) * 0.1;
    }

    public static void main(String[] args) {
        int[] phases = new int[4];
        for (int seed = 1; seed <= OBJECTS; seed++) {
            AnyCallTest run = new AnyCallTest(seed);
            run.setUp();
            while (run.calls < MOST_CALLS - 30) {
                phases[run.war.phase()]++;
                run.calls++;
                run.anyCall();
            }
        }
        for (int phase = 0; phase < 4; phase++) {
            CHECK.due("calls in phase " + phase, phases[phase] >= ENOUGH, true);
        }
        CHECK.end();
    }

    private int number(int least, int most) {
        if (dice.nextDouble() < madness) {
            return dice.nextBoolean() ? FAR[dice.nextInt(FAR.length)] : dice.nextInt();
        }
        return least + dice.nextInt(most - least + 1);
    }

    private int area() {
        return number(-1, 12);
    }

    private int player() {
        return number(0, 3);
    }

    private void setUp() {
        for (int i = 0; i < 12; i++) {
            int kind = number(0, 3) / 3;
            boolean center = kind == 0 && dice.nextBoolean();
            area(kind, center, center ? number(NONE, 3) : NONE);
        }
        for (int i = 0; i < 60; i++) {
            border(area(), area());
        }
        for (int i = 0; i < 12; i++) {
            if (dice.nextDouble() < crowd) {
                unit(i, player(), number(0, 1));
            }
        }
    }

    private void anyCall() {
        int wish = dice.nextInt(40);
        if (wish < 12) {
            change(wish);
        } else if (wish < 25) {
            order(area(), number(-1, 4), area(), area());
        } else {
            look(dice.nextInt(8));
        }
    }

    private void change(int wish) {
        int area = area();
        int other = area();
        switch (wish) {
            case 0 -> area(number(-1, 2), dice.nextBoolean(), number(NONE, 3));
            case 1 -> border(area, other);
            case 2 -> unit(area, player(), number(-1, 2));
            case 3 -> start();
            case 4, 5 -> attack(area, other);
            case 6, 7 -> answers("retreat()", 0, 2, true, () -> war.retreat(player(), area, other));
            case 8, 9 -> answers("build()", 0, 2, true, () -> war.build(player(), area, number(-1, 3)));
            case 10 -> answers("finish()", 1, 3, false, war::finish);
            default -> {
                if (dice.nextInt(2) == 0) {
                    looks("undo()", 0, 1, () -> war.undo() ? 1 : 0);
                }
            }
        }
    }

    private void area(int kind, boolean center, int home) {
        answers("area()", 0, 11, true, () -> war.area(kind, center, home));
    }

    private void border(int a, int b) {
        answers("border()", 0, 1, true, () -> war.border(a, b) ? 1 : 0);
    }

    private void unit(int area, int player, int kind) {
        answers("unit()", 0, 0, true, () -> {
            war.unit(area, player, kind);
            return 0;
        });
    }

    private void start() {
        answers("start()", 0, 0, false, () -> {
            war.start();
            return 0;
        });
    }

    private void order(int area, int kind, int x, int y) {
        int unit = war.at(area);
        calls++;
        int player = unit != NONE && dice.nextInt(10) > 0 ? unit / 2 : player();
        answers("order()", 0, 2, true, () -> war.order(player, area, kind, x, y));
    }

    /** Mere chance would hardly ever displace a unit, so all help one of them. */
    private void attack(int from, int to) {
        for (int area = 0; area < 12; area++) {
            order(area, area == from ? 1 : 2, area == from ? to : from, to);
        }
        answers("resolve()", 0, 12, false, war::resolve);
    }

    private void look(int wish) {
        int area = area();
        int what = number(-1, 3);
        switch (wish) {
            case 0 -> looks("result()", 0, 4, () -> war.result(area));
            case 1 -> looks("turn()", 0, MOST_CALLS, war::turn);
            case 2 -> looks("at()", NONE, 7, () -> war.at(area));
            case 3 -> looks("displaced()", NONE, 7, () -> war.displaced(area));
            case 4 -> looks("mayGo()", 0, 1, () -> war.mayGo(area, what) ? 1 : 0);
            case 5 -> looks("owner()", NONE, 3, () -> war.owner(area));
            case 6 -> looks("count()", 0, 12, () -> war.count(player(), what));
            default -> looks("told()", NONE, 11, () -> war.told(area, what));
        }
    }

    private void looks(String call, int least, int most, Supplier<Integer> asked) {
        calls++;
        int answer = asked.get();
        CHECK.due(call + " answers " + answer, answer >= least && answer <= most, true);
    }

    private void answers(String call, int least, int most, boolean mayRefuseArgument, Supplier<Integer> asked) {
        try {
            looks(call, least, most, asked);
        } catch (IllegalArgumentException e) {
            CHECK.due(call + " refuses an argument", e.getClass() == IllegalArgumentException.class, mayRefuseArgument);
        } catch (IllegalStateException e) {
            CHECK.due(call + " refuses a state", e.getClass() == IllegalStateException.class, true);
        }
    }
}
