/** The edges of what it is and of the map: no areas, 12 of them, the first and the last player, 512 calls. */
public final class MapEdgeTest {
    private static final int NONE = SheetWar.NONE;
    private static final int MOST_CALLS = 512;
    private static final Check CHECK = new Check("MapEdgeTest");

    public static void main(String[] args) {
        noAreasInSetUp();
        noAreasInOrders();
        oneArea();
        twelveAreas();
        thirteenthArea();
        lastAreaInOrders();
        lastAreaInRetreats();
        firstAreaInRetreats();
        lastAreaInBuilds();
        twelveUnits();
        firstAndLastPlayer();
        allCalls();
        CHECK.end();
    }

    private static void noAreasInSetUp() {
        SheetWar war = new SheetWar();
        CHECK.refusesArgument("border(0, 1)", () -> war.border(0, 1));
        CHECK.refusesArgument("unit(0, 0, 0)", () -> war.unit(0, 0, 0));
        CHECK.due("phase()", war.phase(), 0);
        nothingToSee(war);
        CHECK.due("the first area", war.area(1, false, NONE), 0);
    }

    private static void noAreasInOrders() {
        SheetWar war = new SheetWar();
        war.start();
        for (int turn = 1; turn <= 9; turn++) {
            CHECK.due("phase() of turn " + turn, war.phase(), 1);
            CHECK.due("turn()", war.turn(), turn);
            CHECK.refusesArgument("order(0, 0, 0, 0, 0)", () -> war.order(0, 0, 0, 0, 0));
            CHECK.refusesState("finish()", war::finish);
            nothingToSee(war);
            CHECK.due("resolve()", war.resolve(), 0);
        }
        CHECK.due("undo()", war.undo(), true);
        CHECK.due("turn() behind undo()", war.turn(), 9);
    }

    private static void nothingToSee(SheetWar war) {
        CHECK.due("at(0)", war.at(0), NONE);
        CHECK.due("displaced(0)", war.displaced(0), NONE);
        CHECK.due("owner(0)", war.owner(0), NONE);
        CHECK.due("result(0)", war.result(0), 0);
        CHECK.due("mayGo(0, 0)", war.mayGo(0, 0), false);
        CHECK.due("mayGo(0, 1)", war.mayGo(0, 1), false);
        CHECK.due("count(0, 0)", war.count(0, 0), 0);
        CHECK.due("count(0, 1)", war.count(0, 1), 0);
        for (int what = -1; what <= 3; what++) {
            CHECK.due("told(0, " + what + ")", war.told(0, what), NONE);
        }
    }

    private static void oneArea() {
        Scene scene = new Scene(CHECK, "one area", "H0", "", "0:A0");
        CHECK.due("a MOVE to itself", scene.war.order(0, 0, 1, 0, 0), 2);
        CHECK.due("a SUPPORT of itself", scene.war.order(0, 0, 2, 0, 0), 2);
        CHECK.due("a CONVOY of itself", scene.war.order(0, 0, 3, 0, 0), 2);
        CHECK.due("a HOLD", scene.war.order(0, 0, 0, 0, 0), 0);
        scene.settles(0, 1).settles(0, 1).isIn(1, 3);
    }

    private static void twelveAreas() {
        SheetWar war = new SheetWar();
        for (int area = 0; area < 12; area++) {
            CHECK.refusesArgument("unit() before its area", unitAt(war, area));
            CHECK.due("area " + area, war.area(0, true, area % 5 - 1), area);
            CHECK.due("its owner", war.owner(area), area % 5 - 1);
        }
        for (int a = 0; a < 12; a++) {
            for (int b = a + 1; b < 12; b++) {
                CHECK.due("border(" + b + ", " + a + ")", war.border(b, a), true);
                CHECK.due("border(" + a + ", " + b + ")", war.border(a, b), false);
            }
        }
        for (int player = 0; player < 4; player++) {
            CHECK.due("count(" + player + ", 0)", war.count(player, 0), player == 0 ? 3 : 2);
        }
    }

    private static Runnable unitAt(SheetWar war, int area) {
        return () -> war.unit(area, 0, 0);
    }

    private static void thirteenthArea() {
        SheetWar war = Scene.setUp("L L L L L L S S S S S S", "", "");
        CHECK.refusesState("LAND", () -> war.area(0, false, NONE));
        CHECK.refusesState("SEA", () -> war.area(1, false, NONE));
        CHECK.refusesState("a center", () -> war.area(0, true, NONE));
        CHECK.refusesState("a home", () -> war.area(0, true, 3));
        CHECK.due("count(3, 0)", war.count(3, 0), 0);
        CHECK.due("owner(12)", war.owner(12), NONE);
        CHECK.due("owner(11)", war.owner(11), NONE);
        CHECK.refusesArgument("border(11, 12)", () -> war.border(11, 12));
        CHECK.refusesArgument("border(12, 11)", () -> war.border(12, 11));
        CHECK.refusesArgument("unit(12, 0, 0)", () -> war.unit(12, 0, 0));
        CHECK.due("phase()", war.phase(), 0);
        CHECK.due("border(0, 11)", war.border(0, 11), true);
        war.start();
        CHECK.refusesState("in ORDERS", () -> war.area(0, false, NONE));
    }

    private static Scene twelve(String title, String units) {
        return new Scene(CHECK, title, "L L L L L L L L L L S L", Scene.allOf(12), units);
    }

    private static void lastAreaInOrders() {
        SheetWar war = twelve("no area behind it", "10:F0 11:A0").war;
        CHECK.refusesArgument("an order at 12", () -> war.order(0, 12, 0, 0, 0));
        CHECK.refusesArgument("a MOVE to 12", () -> war.order(0, 11, 1, 12, 0));
        CHECK.refusesArgument("a SUPPORT of 12", () -> war.order(0, 11, 2, 12, 0));
        CHECK.refusesArgument("a SUPPORT to 12", () -> war.order(0, 11, 2, 10, 12));
        CHECK.refusesArgument("a CONVOY of 12", () -> war.order(0, 10, 3, 12, 0));
        CHECK.refusesArgument("a CONVOY to 12", () -> war.order(0, 10, 3, 11, 12));
        twelve("MOVE from it", "11:A0").orders("11-0").settles(1, 0, 0, 0, 0, 0, 0, 0, 0, 0, 0, 0, 1).stands("0:A0");
        twelve("MOVE to it", "0:A0").orders("0-11").told(0, 1, 11, 0)
                .settles(1, 1, 0, 0, 0, 0, 0, 0, 0, 0, 0, 0, 0).stands("11:A0");
        twelve("SUPPORT", "9:A0 10:F0 11:A1").orders("9-11, 10 s 9-11").told(10, 2, 9, 11)
                .settles(1, 0, 0, 0, 0, 0, 0, 0, 0, 0, 1, 1, 4).stands("10:F0 11:A0").aside("11:A1");
        new Scene(CHECK, "CONVOY", "L L L L L L L L L L S L", "0-10 10-11", "0:A0 10:F0 11:A1")
                .orders("0-11, 11-0, 10 c 0-11").told(10, 3, 0, 11)
                .settles(0, 2, 0, 0, 0, 0, 0, 0, 0, 0, 0, 1, 2);
    }

    private static void lastAreaInRetreats() {
        Scene from = twelve("from it", "9:A0 10:F0 11:A1").orders("9-11, 10 s 9-11");
        CHECK.due("resolve()", from.war.resolve(), 1);
        from.mayGo(11, "0 1 2 3 4 5 6 7 8").retreat(11, 9, 2).retreat(11, 0, 0);
        CHECK.refusesArgument("retreat(1, 12, 0)", () -> from.war.retreat(1, 12, 0));
        CHECK.refusesArgument("retreat(1, 11, 12)", () -> from.war.retreat(1, 11, 12));
        from.finish(1).stands("0:A1 10:F0 11:A0");
        Scene to = twelve("to it", "0:A0 1:A1 2:A0").orders("0-1, 2 s 0-1");
        CHECK.due("resolve()", to.war.resolve(), 1);
        to.mayGo(1, "3 4 5 6 7 8 9 11").retreat(1, 11, 0).finish(1).stands("1:A0 2:A0 11:A1");
    }

    private static void firstAreaInRetreats() {
        Scene from = twelve("from the first", "0:A1 1:A0 2:A0").orders("1-0, 2 s 1-0");
        CHECK.due("resolve()", from.war.resolve(), 1);
        from.aside("0:A1").mayGo(0, "3 4 5 6 7 8 9 11").retreat(0, 3, 0).finish(1).stands("0:A0 2:A0 3:A1");
        Scene to = twelve("to the first", "1:A1 2:A0 3:A0").orders("2-1, 3 s 2-1");
        CHECK.due("resolve()", to.war.resolve(), 1);
        to.aside("1:A1").retreat(1, 0, 0).finish(1).stands("0:A1 1:A0 3:A0");
    }

    private static void lastAreaInBuilds() {
        Scene scene = new Scene(CHECK, "builds", "L L L L L L L L L L S H3", "10-11", "0:A0");
        scene.war.resolve();
        scene.war.resolve();
        CHECK.refusesArgument("build(3, 12, 0)", () -> scene.war.build(3, 12, 0));
        CHECK.refusesArgument("build(0, 12, 2)", () -> scene.war.build(0, 12, 2));
        scene.isIn(3, 2).build(3, 11, 1, 0).finish(1).stands("11:F3");
        Scene many = twelve("too many", "0:A0 11:A0");
        many.war.resolve();
        many.war.resolve();
        many.isIn(3, 2).build(0, 11, 2, 0).stands("0:A0").finish(1).stands("");
        // With 12 areas, none of which is a home of the player with fewer units.
        Scene none = new Scene(CHECK, "no place", "C L L L L L L L L L S C", Scene.allOf(12), "0:A0");
        none.war.resolve();
        none.war.resolve();
        none.isIn(1, 3).orders("0-11");
        none.war.resolve();
        none.war.resolve();
        none.isIn(1, 5).counts(0, 2, 1);
        Scene one = new Scene(CHECK, "one too many", "H0 L L L L L L L L L S L", "", "0:A0 11:A0");
        one.war.resolve();
        one.war.resolve();
        one.isIn(3, 2).finish(1).stands("0:A0");
    }

    private static void twelveUnits() {
        String units = "0:A0 1:A1 2:A2 3:A3 4:A0 5:A1 6:A2 7:A3 8:A0 9:A1 10:F2 11:A3";
        Scene scene = twelve("full", units);
        scene.counts(0, 0, 3).counts(1, 0, 3).counts(2, 0, 3).counts(3, 0, 3);
        scene.settles(0, 1, 1, 1, 1, 1, 1, 1, 1, 1, 1, 1, 1).stands(units);
        scene.settles(0, 1, 1, 1, 1, 1, 1, 1, 1, 1, 1, 1, 1).isIn(3, 2).finish(1).stands("").isIn(1, 3);
        CHECK.due("resolve() without units", scene.war.resolve(), 0);
        // On a full map nothing is free but what the attack left.
        Scene full = twelve("nowhere to go", units).orders("0-1, 4 s 0-1");
        full.settles(1, 1, 4, 1, 1, 1, 1, 1, 1, 1, 1, 1, 1).aside("1:A1").mayGo(1, "").retreat(1, 0, 2).finish(1);
        full.counts(1, 0, 2);
    }

    private static void firstAndLastPlayer() {
        for (int player : new int[] {0, 3}) {
            SheetWar war = new SheetWar();
            CHECK.due("a home of " + player, war.area(0, true, player), 0);
            CHECK.due("LAND", war.area(0, false, NONE), 1);
            CHECK.due("border()", war.border(0, 1), true);
            war.unit(1, player, 0);
            war.start();
            CHECK.due("an order of " + player, war.order(player, 1, 1, 0, 0), 0);
            CHECK.due("resolve()", war.resolve(), 1);
            CHECK.due("at(0)", war.at(0), 2 * player);
            CHECK.due("owner(0)", war.owner(0), player);
            CHECK.due("count(.., 0)", war.count(player, 0), 1);
            CHECK.due("count(.., 1)", war.count(player, 1), 1);
        }
    }

    /** The very last call that is promised is answered as the first one. */
    private static void allCalls() {
        SheetWar war = Scene.setUp("H0 L", "0-1", "0:A0");
        war.start();
        int calls = 5;
        int turn = 1;
        while (calls + 2 <= MOST_CALLS - 1) {
            CHECK.due("order() of turn " + turn, war.order(0, (turn + 1) % 2, 1, turn % 2, 0), 0);
            CHECK.due("resolve() of turn " + turn, war.resolve(), 1);
            calls += 2;
            turn++;
        }
        CHECK.due("calls before the last", calls, MOST_CALLS - 1);
        CHECK.due("turn(), the last call", war.turn(), turn);

        SheetWar refused = new SheetWar();
        for (int i = 1; i < MOST_CALLS; i++) {
            CHECK.refusesArgument("area(2, false, NONE)", () -> refused.area(2, false, NONE));
        }
        CHECK.due("area(0, false, NONE), the last call", refused.area(0, false, NONE), 0);
    }
}
