/** Promise 12: undo. */
public final class UndoTest {
    private static final int NONE = SheetWar.NONE;
    private static final Check CHECK = new Check("UndoTest");

    public static void main(String[] args) {
        nothingToTakeBack();
        Scene.inAllWays(UndoTest::whatComesBack);
        eightAtMost();
        lessThanEight();
        CHECK.end();
    }

    private static void whatComesBack() {
        fromOrders();
        fromRetreats();
        fromBuilds();
        centersComeBack();
        resultsComeBack();
        anotherWayOn();
    }

    private static Scene land(String title, int size, String units) {
        return new Scene(CHECK, title, "L ".repeat(size), Scene.allOf(size), units);
    }

    private static void nothingToTakeBack() {
        SheetWar war = new SheetWar();
        war.area(0, false, NONE);
        CHECK.due("undo() in SET-UP", war.undo(), false);
        CHECK.due("phase() behind it", war.phase(), 0);
        CHECK.due("area() behind it", war.area(0, false, NONE), 1);
        Scene scene = land("no resolve yet", 2, "0:A0").orders("0-1").undo(false);
        scene.isIn(1, 1).told(0, 1, 1, 0).stands("0:A0");
    }

    private static void fromOrders() {
        Scene scene = land("from ORDERS", 3, "0:A0 1:A1").orders("0-2, 1 s 0-2").settles(1, 1, 1, 0);
        scene.isIn(1, 2).orders("2-0").undo(true).isIn(1, 1).stands("0:A0 1:A1");
        scene.told(0, 1, 2, 0).told(1, 2, 0, 2).tells(0, 0, 0).undo(false).isIn(1, 1).told(0, 1, 2, 0);
        scene.settles(1, 1, 1, 0).stands("1:A1 2:A0");
    }

    private static void fromRetreats() {
        Scene scene = land("from RETREATS", 4, "0:A0 1:A1 2:A0").orders("0-1, 2 s 0-1").settles(1, 1, 4, 1, 0);
        scene.isIn(2, 1).retreat(1, 3, 0).undo(true).isIn(1, 1).stands("0:A0 1:A1 2:A0").aside("").mayGo(1, "");
        scene.told(0, 1, 1, 0).told(2, 2, 0, 1).tells(0, 0, 0, 0);
        CHECK.refusesState("finish() behind undo()", scene.war::finish);
        // What was said before it was taken back is gone, too.
        scene.settles(1, 1, 4, 1, 0).isIn(2, 1).aside("1:A1").finish(1).stands("1:A0 2:A0");
        scene.undo(true).isIn(1, 1).stands("0:A0 1:A1 2:A0").tells(0, 0, 0, 0).undo(false);
    }

    private static void fromBuilds() {
        Scene scene = new Scene(CHECK, "from BUILDS", "H0 H0 L", Scene.allOf(3), "2:A0");
        scene.settles(0, 0, 0, 1).settles(0, 0, 0, 1).isIn(3, 2).build(0, 0, 0, 0).undo(true);
        scene.isIn(1, 2).stands("2:A0").tells(0, 0, 1).counts(0, 2, 1);
        scene.settles(0, 0, 0, 1).isIn(3, 2).build(0, 1, 0, 0).finish(1).isIn(1, 3).stands("1:A0 2:A0");
        scene.undo(true).isIn(1, 2).stands("2:A0").undo(true).isIn(1, 1).undo(false);
    }

    private static void centersComeBack() {
        Scene scene = new Scene(CHECK, "centers", "H0 C H1 L", Scene.allOf(4), "1:A0 2:A0 3:A1");
        scene.settles(0, 0, 1, 1, 1).settles(0, 0, 1, 1, 1).owners(0, 0, 0, NONE).isIn(3, 2);
        scene.undo(true).owners(0, NONE, 1, NONE).counts(0, 1, 2).counts(1, 1, 1).isIn(1, 2);
    }

    private static void resultsComeBack() {
        Scene scene = land("results", 4, "0:A0 1:A1 2:A0").orders("0-1, 2 s 0-1").settles(1, 1, 4, 1, 0);
        scene.retreat(1, 3, 0).finish(1).orders("1 s 3-0, 3-0").settles(1, 0, 1, 1, 1).tells(0, 1, 1, 1);
        scene.undo(true).isIn(1, 2).tells(1, 4, 1, 0).told(1, 2, 3, 0).told(2, 0, 0, 0).told(3, 1, 0, 0);
        scene.aside("").stands("1:A0 2:A0 3:A1").undo(true).isIn(1, 1).tells(0, 0, 0, 0).aside("");
    }

    private static void anotherWayOn() {
        Scene scene = land("another way", 4, "0:A0").orders("0-1").settles(1, 1, 0, 0, 0).undo(true);
        scene.orders("0-2").settles(1, 1, 0, 0, 0).stands("2:A0").orders("2-3").settles(1, 0, 0, 1, 0);
        scene.undo(true).stands("2:A0").told(2, 1, 3, 0).undo(true).stands("0:A0").told(0, 1, 2, 0).undo(false);
    }

    private static void eightAtMost() {
        Scene scene = new Scene(CHECK, "eight", "H0 L", "0-1", "0:A0");
        for (int turn = 1; turn <= 10; turn++) {
            scene.orders(turn % 2 == 1 ? "0-1" : "1-0");
            CHECK.due("resolve() of turn " + turn, scene.war.resolve(), 1);
        }
        scene.isIn(1, 11).stands("0:A0");
        for (int turn = 10; turn >= 3; turn--) {
            scene.undo(true).isIn(1, turn).told(turn % 2 == 1 ? 0 : 1, 1, turn % 2, 0);
        }
        scene.tells(0, 1).undo(false).isIn(1, 3).stands("0:A0").told(0, 1, 1, 0).undo(false);
    }

    private static void lessThanEight() {
        Scene scene = new Scene(CHECK, "less than eight", "H0 L", "0-1", "0:A0");
        for (int turn = 1; turn <= 8; turn++) {
            scene.settles(0, 1, 0);
        }
        for (int turn = 8; turn >= 1; turn--) {
            scene.undo(true).isIn(1, turn);
        }
        scene.undo(false).isIn(1, 1);
    }
}
