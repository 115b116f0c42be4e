/** Promises 13 to 15: phase, turn and at; and that looking changes nothing. */
public final class LookTest {
    private static final int NONE = SheetWar.NONE;
    private static final Check CHECK = new Check("LookTest");

    public static void main(String[] args) {
        phasesAndTurns();
        unitsOfAll();
        beside();
        apart();
        lookingChangesNothing();
        CHECK.end();
    }

    private static void phasesAndTurns() {
        Scene scene = new Scene(CHECK, "phases", "L L L L H2", Scene.allOf(5), "0:A0 1:A1 2:A0");
        scene.isIn(1, 1).orders("0-1, 2 s 0-1").settles(1, 1, 4, 1, 0, 0).isIn(2, 1).retreat(1, 3, 0).finish(1);
        scene.isIn(1, 2).orders("1-3, 2 s 1-3").settles(1, 0, 1, 1, 4, 0).isIn(2, 2).retreat(3, 0, 0).finish(3);
        scene.isIn(3, 2).build(0, 3, 2, 0).build(2, 4, 0, 0).finish(1).isIn(1, 3).stands("4:A2");
        scene.settles(0, 0, 0, 0, 0, 1).isIn(1, 4).settles(0, 0, 0, 0, 0, 1).isIn(1, 5);
    }

    private static void unitsOfAll() {
        new Scene(CHECK, "units", "L L L L S S S S", "0-4", "0:A0 1:A1 2:A2 3:A3 4:F0 5:F1 6:F2 7:F3")
                .stands("0:A0 1:A1 2:A2 3:A3 4:F0 5:F1 6:F2 7:F3");
        SheetWar war = new SheetWar();
        war.area(1, false, NONE);
        war.unit(0, 2, 1);
        CHECK.due("at(0), a fleet of 2", war.at(0), 5);
    }

    private static void beside() {
        SheetWar war = new Scene(CHECK, "beside", "L L", "0-1", "0:A0 1:A3").war;
        for (int area : new int[] {-1, 2, 11, 12, Integer.MIN_VALUE, Integer.MAX_VALUE}) {
            CHECK.due("at(" + area + ")", war.at(area), NONE);
            CHECK.due("displaced(" + area + ")", war.displaced(area), NONE);
            CHECK.due("owner(" + area + ")", war.owner(area), NONE);
            CHECK.due("result(" + area + ")", war.result(area), 0);
            CHECK.due("told(" + area + ", 0)", war.told(area, 0), NONE);
            CHECK.due("mayGo(" + area + ", 0)", war.mayGo(area, 0), false);
            CHECK.due("mayGo(0, " + area + ")", war.mayGo(0, area), false);
        }
    }

    private static void apart() {
        Scene first = new Scene(CHECK, "first", "L L", "0-1", "0:A0");
        Scene second = new Scene(CHECK, "second", "H1 S L", "0-1", "0:F1 2:A3");
        first.orders("0-1").settles(1, 1, 0).stands("1:A0").isIn(1, 2);
        second.stands("0:F1 2:A3").isIn(1, 1).tells(0, 0, 0).told(0, 0, 0, 0).owners(1, NONE, NONE).undo(false);
        first.undo(true).stands("0:A0").isIn(1, 1);
    }

    private static void lookingChangesNothing() {
        Scene scene = new Scene(CHECK, "looking", "H0 L L L", Scene.allOf(4), "0:A0 1:A1 2:A0");
        for (int i = 0; i < 2; i++) {
            scene.stands("0:A0 1:A1 2:A0").owners(0, NONE, NONE, NONE).counts(0, 1, 2).isIn(1, 1).aside("");
        }
        scene.orders("0-1, 2 s 0-1").settles(1, 1, 4, 1, 0);
        for (int i = 0; i < 2; i++) {
            scene.isIn(2, 1).aside("1:A1").mayGo(1, "3").stands("1:A0 2:A0").tells(1, 4, 1, 0);
        }
    }
}
