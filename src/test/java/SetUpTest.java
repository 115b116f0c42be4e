/** Promises 1 to 5: a new object, area, border, unit, start. */
public final class SetUpTest {
    private static final int NONE = SheetWar.NONE;
    private static final Check CHECK = new Check("SetUpTest");

    public static void main(String[] args) {
        newObject();
        areas();
        areaArguments();
        areaStates();
        borders();
        borderArguments();
        units();
        unitArguments();
        unitStates();
        start();
        startWithNothing();
        CHECK.end();
    }

    private static void newObject() {
        SheetWar war = new SheetWar();
        CHECK.due("phase() of a new object", war.phase(), 0);
        CHECK.due("turn() of a new object", war.turn(), 0);
        CHECK.due("at(0) of a new object", war.at(0), NONE);
        CHECK.due("owner(0) of a new object", war.owner(0), NONE);
        CHECK.due("result(0) of a new object", war.result(0), 0);
        CHECK.due("displaced(0) of a new object", war.displaced(0), NONE);
        CHECK.due("told(0, 0) of a new object", war.told(0, 0), NONE);
        CHECK.due("undo() of a new object", war.undo(), false);
        CHECK.due("phase() after undo() of a new object", war.phase(), 0);
        for (int player = -1; player <= 4; player++) {
            CHECK.due("count(.., 0) of a new object", war.count(player, 0), 0);
            CHECK.due("count(.., 1) of a new object", war.count(player, 1), 0);
        }
        CHECK.refusesArgument("unit(0, 0, 0) of a new object", () -> war.unit(0, 0, 0));
        CHECK.due("area(0, false, NONE) of a new object", war.area(0, false, NONE), 0);
    }

    private static void areas() {
        SheetWar war = new SheetWar();
        CHECK.due("area(0, true, 3)", war.area(0, true, 3), 0);
        CHECK.due("area(0, true, NONE)", war.area(0, true, NONE), 1);
        CHECK.due("area(0, false, NONE)", war.area(0, false, NONE), 2);
        CHECK.due("area(1, false, NONE)", war.area(1, false, NONE), 3);
        CHECK.due("area(0, true, 0)", war.area(0, true, 0), 4);
        CHECK.due("owner(0)", war.owner(0), 3);
        CHECK.due("owner(1)", war.owner(1), NONE);
        CHECK.due("owner(2)", war.owner(2), NONE);
        CHECK.due("owner(3)", war.owner(3), NONE);
        CHECK.due("owner(4)", war.owner(4), 0);
        CHECK.due("count(3, 0)", war.count(3, 0), 1);
        CHECK.due("count(0, 0)", war.count(0, 0), 1);
        CHECK.due("count(1, 0)", war.count(1, 0), 0);
        CHECK.due("at(0)", war.at(0), NONE);
    }

    private static void areaArguments() {
        SheetWar war = new SheetWar();
        for (int kind : new int[] {-1, 2, Integer.MIN_VALUE, Integer.MAX_VALUE}) {
            CHECK.refusesArgument("area(" + kind + ", false, NONE)", () -> war.area(kind, false, NONE));
        }
        for (int home : new int[] {-2, 4, Integer.MIN_VALUE, Integer.MAX_VALUE}) {
            CHECK.refusesArgument("area(0, true, " + home + ")", () -> war.area(0, true, home));
        }
        CHECK.refusesArgument("area(1, true, NONE)", () -> war.area(1, true, NONE));
        CHECK.refusesArgument("area(1, true, 0)", () -> war.area(1, true, 0));
        CHECK.refusesArgument("area(1, false, 0)", () -> war.area(1, false, 0));
        CHECK.refusesArgument("area(0, false, 0)", () -> war.area(0, false, 0));
        CHECK.refusesArgument("area(0, false, 3)", () -> war.area(0, false, 3));
        CHECK.due("area() behind refused ones", war.area(0, true, 1), 0);
    }

    private static void areaStates() {
        SheetWar war = new SheetWar();
        for (int i = 0; i < 12; i++) {
            CHECK.due("area number " + i, war.area(i % 2, false, NONE), i);
        }
        CHECK.refusesState("the 13th area", () -> war.area(0, false, NONE));
        CHECK.due("owner(12)", war.owner(12), NONE);
        CHECK.due("border(0, 11)", war.border(0, 11), true);
        war.unit(11, 0, 1);
        CHECK.due("at(11)", war.at(11), 1);

        SheetWar begun = new SheetWar();
        begun.start();
        CHECK.refusesState("area() in ORDERS", () -> begun.area(0, false, NONE));
    }

    private static void borders() {
        SheetWar war = new SheetWar();
        war.area(0, false, NONE);
        war.area(0, false, NONE);
        war.area(0, false, NONE);
        CHECK.due("border(0, 1)", war.border(0, 1), true);
        CHECK.due("border(0, 1) again", war.border(0, 1), false);
        CHECK.due("border(1, 0)", war.border(1, 0), false);
        CHECK.due("border(2, 1)", war.border(2, 1), true);
        CHECK.due("border(1, 2)", war.border(1, 2), false);
        CHECK.due("border(0, 2)", war.border(0, 2), true);
    }

    private static void borderArguments() {
        SheetWar war = new SheetWar();
        war.area(0, false, NONE);
        war.area(0, false, NONE);
        CHECK.refusesArgument("border(0, 0)", () -> war.border(0, 0));
        CHECK.refusesArgument("border(0, 2)", () -> war.border(0, 2));
        CHECK.refusesArgument("border(2, 0)", () -> war.border(2, 0));
        CHECK.refusesArgument("border(-1, 0)", () -> war.border(-1, 0));
        CHECK.refusesArgument("border(0, -1)", () -> war.border(0, -1));
        CHECK.refusesArgument("border(MIN, MAX)", () -> war.border(Integer.MIN_VALUE, Integer.MAX_VALUE));
        CHECK.due("border(0, 1) behind refused ones", war.border(0, 1), true);
        war.start();
        CHECK.refusesState("border(0, 1) in ORDERS", () -> war.border(0, 1));
    }

    private static void units() {
        SheetWar war = new SheetWar();
        war.area(0, false, NONE);
        war.area(1, false, NONE);
        war.area(0, true, 2);
        war.border(0, 1);
        war.unit(0, 3, 1);
        war.unit(1, 0, 1);
        war.unit(2, 2, 0);
        CHECK.due("at(0), a fleet of 3", war.at(0), 7);
        CHECK.due("at(1), a fleet of 0", war.at(1), 1);
        CHECK.due("at(2), an army of 2", war.at(2), 4);
        CHECK.due("count(3, 1)", war.count(3, 1), 1);
        CHECK.due("count(1, 1)", war.count(1, 1), 0);
        CHECK.due("told(0, 0) in SET-UP", war.told(0, 0), NONE);
    }

    private static void unitArguments() {
        SheetWar war = new SheetWar();
        war.area(0, false, NONE);
        CHECK.refusesArgument("unit(1, 0, 0)", () -> war.unit(1, 0, 0));
        CHECK.refusesArgument("unit(-1, 0, 0)", () -> war.unit(-1, 0, 0));
        CHECK.refusesArgument("unit(0, -1, 0)", () -> war.unit(0, -1, 0));
        CHECK.refusesArgument("unit(0, 4, 0)", () -> war.unit(0, 4, 0));
        CHECK.refusesArgument("unit(0, 0, -1)", () -> war.unit(0, 0, -1));
        CHECK.refusesArgument("unit(0, 0, 2)", () -> war.unit(0, 0, 2));
        CHECK.due("at(0) behind refused ones", war.at(0), NONE);
    }

    private static void unitStates() {
        SheetWar war = new SheetWar();
        war.area(0, false, NONE);
        war.area(1, false, NONE);
        war.area(0, false, NONE);
        war.border(0, 2);
        CHECK.refusesState("an army at SEA", () -> war.unit(1, 0, 0));
        CHECK.refusesState("a fleet at LAND that borders LAND alone", () -> war.unit(0, 0, 1));
        war.border(1, 0);
        war.unit(0, 0, 1);
        CHECK.due("a fleet at LAND that now borders SEA", war.at(0), 1);
        CHECK.refusesState("a second unit", () -> war.unit(0, 1, 0));
        CHECK.due("at(0) behind it", war.at(0), 1);
        CHECK.refusesState("a fleet at LAND beside LAND beside SEA", () -> war.unit(2, 0, 1));
        war.start();
        CHECK.refusesState("unit(2, 0, 0) in ORDERS", () -> war.unit(2, 0, 0));
        CHECK.due("at(2)", war.at(2), NONE);
    }

    private static void start() {
        SheetWar war = new SheetWar();
        war.area(0, true, 0);
        war.unit(0, 1, 0);
        war.start();
        CHECK.due("phase() behind start()", war.phase(), 1);
        CHECK.due("turn() behind start()", war.turn(), 1);
        CHECK.due("told(0, 0) behind start()", war.told(0, 0), 0);
        CHECK.due("owner(0) behind start()", war.owner(0), 0);
        CHECK.due("result(0) behind start()", war.result(0), 0);
        CHECK.refusesState("start() again", war::start);
        CHECK.due("turn() behind start() again", war.turn(), 1);
    }

    private static void startWithNothing() {
        SheetWar war = new SheetWar();
        war.start();
        CHECK.due("resolve() without areas", war.resolve(), 0);
        CHECK.due("turn() without areas", war.turn(), 2);
        CHECK.due("resolve() without areas, turn 2", war.resolve(), 0);
        CHECK.due("phase() without areas", war.phase(), 1);
        CHECK.due("turn() without areas", war.turn(), 3);
    }
}
