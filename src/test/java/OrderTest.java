/** Promises 6 and 20: order and told. */
public final class OrderTest {
    private static final int NONE = SheetWar.NONE;
    private static final Check CHECK = new Check("OrderTest");

    // 0, 1, 2, 5 are LAND, 3 and 4 SEA; 2 is inland, 5 touches nothing but 4.
    private static final String AREAS = "L L L S S L";
    private static final String BORDERS = "0-1 1-2 0-3 1-3 3-4 4-5";

    public static void main(String[] args) {
        holds();
        armyMoves();
        fleetMoves();
        supports();
        convoys();
        whoseUnit();
        arguments();
        states();
        refusedLeavesTheOldOne();
        toldOfNothing();
        CHECK.end();
    }

    private static SheetWar war(String units) {
        return new Scene(CHECK, "war", AREAS, BORDERS, units).war;
    }

    private static void due(SheetWar war, int area, int kind, int x, int y, int answer) {
        int player = war.at(area) / 2;
        CHECK.due("order(" + player + ", " + area + ", " + kind + ", " + x + ", " + y + ")",
                war.order(player, area, kind, x, y), answer);
    }

    private static void told(SheetWar war, int area, int kind, int x, int y) {
        CHECK.due("told(" + area + ", 0)", war.told(area, 0), kind);
        CHECK.due("told(" + area + ", 1)", war.told(area, 1), x);
        CHECK.due("told(" + area + ", 2)", war.told(area, 2), y);
    }

    private static void holds() {
        SheetWar war = war("0:A0 3:F1");
        told(war, 0, 0, 0, 0);
        due(war, 0, 1, 1, 2, 0);
        told(war, 0, 1, 1, 0);
        due(war, 0, 0, 1, 2, 0);
        told(war, 0, 0, 0, 0);
        due(war, 0, 0, -5, 99, 0);
        told(war, 0, 0, 0, 0);
    }

    private static void armyMoves() {
        SheetWar war = war("0:A0");
        due(war, 0, 1, 1, 0, 0);
        due(war, 0, 1, 0, 0, 2);
        due(war, 0, 1, 3, 0, 2);
        due(war, 0, 1, 4, 0, 2);
        told(war, 0, 1, 1, 0);
        due(war, 0, 1, 2, 0, 0);
        told(war, 0, 1, 2, 0);
        due(war, 0, 1, 5, -1, 0);
        told(war, 0, 1, 5, 0);
    }

    private static void fleetMoves() {
        SheetWar war = war("0:F0 3:F1");
        due(war, 0, 1, 1, 0, 2);
        due(war, 0, 1, 4, 0, 2);
        due(war, 0, 1, 5, 0, 2);
        due(war, 0, 1, 0, 0, 2);
        due(war, 0, 1, 3, 77, 0);
        told(war, 0, 1, 3, 0);
        due(war, 3, 1, 2, 0, 2);
        due(war, 3, 1, 5, 0, 2);
        due(war, 3, 1, 3, 0, 2);
        due(war, 3, 1, 1, 0, 0);
        due(war, 3, 1, 4, 0, 0);
        told(war, 3, 1, 4, 0);
    }

    private static void supports() {
        SheetWar war = war("0:A0 1:A1 3:F2 2:A3");
        due(war, 0, 2, 1, 1, 0);
        told(war, 0, 2, 1, 1);
        due(war, 0, 2, 2, 1, 0);
        told(war, 0, 2, 2, 1);
        due(war, 0, 2, 3, 1, 0);
        due(war, 0, 2, 0, 1, 2);
        due(war, 0, 2, 1, 0, 2);
        due(war, 0, 2, 1, 2, 2);
        due(war, 0, 2, 1, 3, 2);
        due(war, 0, 2, 5, 1, 2);
        due(war, 0, 2, 3, 3, 2);
        told(war, 0, 2, 3, 1);
        due(war, 3, 2, 2, 1, 0);
        due(war, 3, 2, 0, 4, 0);
        due(war, 3, 2, 0, 2, 2);
        due(war, 3, 2, 4, 4, 2);
        due(war, 3, 2, 0, 0, 0);
        told(war, 3, 2, 0, 0);
        SheetWar coast = war("0:F0 1:F1 3:F2");
        due(coast, 0, 2, 1, 1, 2);
        due(coast, 0, 2, 1, 3, 0);
        due(coast, 0, 2, 3, 3, 0);
        due(coast, 0, 2, 3, 4, 2);
    }

    private static void convoys() {
        SheetWar war = war("0:A0 1:F1 3:F2 2:A3");
        due(war, 3, 3, 0, 5, 0);
        told(war, 3, 3, 0, 5);
        due(war, 3, 3, 2, 1, 0);
        told(war, 3, 3, 2, 1);
        due(war, 3, 3, 0, 1, 0);
        told(war, 3, 3, 0, 1);
        due(war, 3, 3, 0, 0, 2);
        due(war, 3, 3, 0, 4, 2);
        due(war, 3, 3, 0, 3, 2);
        due(war, 3, 3, 1, 5, 2);
        due(war, 3, 3, 5, 0, 2);
        due(war, 3, 3, 3, 0, 2);
        told(war, 3, 3, 0, 1);
        due(war, 1, 3, 0, 5, 2);
        due(war, 0, 3, 2, 5, 2);
        told(war, 1, 0, 0, 0);
    }

    private static void whoseUnit() {
        SheetWar war = war("0:A0 3:F3");
        CHECK.due("another player's unit", war.order(1, 0, 0, 0, 0), 1);
        CHECK.due("another player's unit, no such move", war.order(1, 0, 1, 0, 0), 1);
        CHECK.due("no unit, player 0", war.order(0, 1, 0, 0, 0), 1);
        CHECK.due("no unit, player 3", war.order(3, 4, 0, 0, 0), 1);
        CHECK.due("player 3's own", war.order(3, 3, 1, 4, 0), 0);
        told(war, 0, 0, 0, 0);
    }

    private static void arguments() {
        SheetWar war = war("0:A0");
        CHECK.refusesArgument("player -1", () -> war.order(-1, 0, 0, 0, 0));
        CHECK.refusesArgument("player 4", () -> war.order(4, 0, 0, 0, 0));
        CHECK.refusesArgument("area -1", () -> war.order(0, -1, 0, 0, 0));
        CHECK.refusesArgument("area 6", () -> war.order(0, 6, 0, 0, 0));
        CHECK.refusesArgument("kind -1", () -> war.order(0, 0, -1, 0, 0));
        CHECK.refusesArgument("kind 4", () -> war.order(0, 0, 4, 1, 1));
        for (int kind = 1; kind <= 3; kind++) {
            int k = kind;
            CHECK.refusesArgument("x -1, kind " + k, () -> war.order(0, 0, k, -1, 1));
            CHECK.refusesArgument("x 6, kind " + k, () -> war.order(0, 0, k, 6, 1));
            CHECK.refusesArgument("x 6, kind " + k + ", no unit", () -> war.order(1, 1, k, 6, 1));
        }
        for (int kind = 2; kind <= 3; kind++) {
            int k = kind;
            CHECK.refusesArgument("y -1, kind " + k, () -> war.order(0, 0, k, 1, -1));
            CHECK.refusesArgument("y 6, kind " + k, () -> war.order(0, 0, k, 1, 6));
        }
        told(war, 0, 0, 0, 0);
        CHECK.due("a MOVE's y isn't looked at", war.order(0, 0, 1, 1, -1), 0);
    }

    private static void states() {
        SheetWar early = new SheetWar();
        early.area(0, false, NONE);
        early.unit(0, 0, 0);
        CHECK.refusesState("order() in SET-UP", () -> early.order(0, 0, 0, 0, 0));
        Scene scene = new Scene(CHECK, "states", "L L L", Scene.allOf(3), "0:A0 1:A1 2:A0");
        scene.orders("0-1, 2 s 0-1").settles(1, 1, 4, 1).isIn(2, 1);
        CHECK.refusesState("order() in RETREATS", () -> scene.war.order(0, 2, 0, 0, 0));
        CHECK.due("told() in RETREATS", scene.war.told(2, 0), NONE);
        scene.finish(1);
        scene.told(2, 0, 0, 0).settles(0, 0, 1, 1).isIn(3, 2);
        CHECK.refusesState("order() in BUILDS", () -> scene.war.order(0, 2, 0, 0, 0));
        CHECK.due("told() in BUILDS", scene.war.told(2, 0), NONE);
    }

    private static void refusedLeavesTheOldOne() {
        SheetWar war = war("0:A0 1:A0");
        due(war, 0, 2, 1, 1, 0);
        due(war, 0, 1, 3, 0, 2);
        told(war, 0, 2, 1, 1);
        CHECK.due("another player", war.order(1, 0, 1, 1, 0), 1);
        told(war, 0, 2, 1, 1);
        CHECK.refusesArgument("no such x", () -> war.order(0, 0, 1, 6, 0));
        told(war, 0, 2, 1, 1);
    }

    private static void toldOfNothing() {
        SheetWar war = war("0:A0");
        due(war, 0, 1, 1, 0, 0);
        CHECK.due("told(0, -1)", war.told(0, -1), NONE);
        CHECK.due("told(0, 3)", war.told(0, 3), NONE);
        CHECK.due("told(0, MAX)", war.told(0, Integer.MAX_VALUE), NONE);
        for (int area : new int[] {1, -1, 6, Integer.MIN_VALUE, Integer.MAX_VALUE}) {
            for (int what = 0; what < 3; what++) {
                CHECK.due("told(" + area + ", " + what + ")", war.told(area, what), NONE);
            }
        }
        war.resolve();
        CHECK.due("told() where it was", war.told(0, 0), NONE);
        told(war, 1, 0, 0, 0);
    }
}
