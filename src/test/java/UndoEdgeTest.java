/** The edges of promise 12: none, some and all of the last eight left, from each phase, and what is refused. */
public final class UndoEdgeTest {
    private static final int MOST = 8;
    private static final Check CHECK = new Check("UndoEdgeTest");
    private static final Phases PHASES = new Phases(CHECK);

    public static void main(String[] args) {
        noneInSetUp();
        noneInFirstOrders();
        noneWithoutAreas();
        noneLeft();
        eachOfTheLastEight();
        inTheMiddleOfATurn();
        theNinthIsLost();
        roundAndRound();
        finishIsNoResolve();
        whatWasSaidIsForgotten();
        refusedCallsAreNoTurns();
        CHECK.end();
    }

    private static void noneInSetUp() {
        PHASES.in(Phases.SET_UP).answersNo("undo()", SheetWar::undo);
    }

    private static void noneInFirstOrders() {
        PHASES.in(Phases.ORDERS).answersNo("undo()", SheetWar::undo);
    }

    private static void noneWithoutAreas() {
        SheetWar none = new SheetWar();
        CHECK.due("undo() without areas", none.undo(), false);
        none.start();
        CHECK.due("undo() without areas in ORDERS", none.undo(), false);
        for (int turn = 1; turn <= MOST; turn++) {
            CHECK.due("resolve() without areas", none.resolve(), 0);
        }
        for (int turn = MOST; turn >= 1; turn--) {
            CHECK.due("undo() without areas to turn " + turn, none.undo(), true);
            CHECK.due("turn()", none.turn(), turn);
        }
        CHECK.due("undo() without areas, a ninth time", none.undo(), false);
        CHECK.due("turn()", none.turn(), 1);
    }

    private static void noneLeft() {
        Twins back = new Twins(CHECK, "all taken back", 2, () -> march(3, 3));
        back.answersNo("undo()", SheetWar::undo);
        Twins eight = new Twins(CHECK, "eight of ten taken back", 2, () -> march(10, MOST));
        eight.answersNo("undo()", SheetWar::undo);
    }

    /** An army goes to and fro; then the last turns are taken back. */
    private static SheetWar march(int turns, int back) {
        SheetWar war = new Scene(CHECK, "march", "H0 L", "0-1", "0:A0").war;
        for (int turn = 1; turn <= turns; turn++) {
            CHECK.due("order() of turn " + turn, war.order(0, (turn + 1) % 2, 1, turn % 2, 0), 0);
            CHECK.due("resolve() of turn " + turn, war.resolve(), 1);
        }
        for (int i = 0; i < back; i++) {
            CHECK.due("undo()", war.undo(), true);
        }
        return war;
    }

    // Player 0 drives the army of player 1 from 1 to 3, back to 1, and from 0 to nowhere; and builds behind turn 4.
    private static final String[] ORDERS = {
        "0-1, 2 s 0-1", "1-0", "0-4", "2 h", "0-3, 4 s 0-3", "1-0", "3-0, 4 s 3-0", "0-1", "1-0",
    };
    private static final String[] BEHIND = {
        "1:A0 2:A0 3:A1", "0:A0 2:A0 3:A1", "2:A0 3:A1 4:A0", "0:A0 2:A0 3:A1 4:A0", "1:A1 2:A0 3:A0 4:A0",
        "0:A1 2:A0 3:A0 4:A0", "0:A0 2:A0 4:A0", "1:A0 2:A0 4:A0", "0:A0 2:A0 4:A0",
    };

    private static Scene campaign(int turns) {
        Scene scene = new Scene(CHECK, "campaign", "H0 L H1 C C", Scene.allOf(5), "0:A0 1:A1 2:A0");
        for (int turn = 1; turn <= turns; turn++) {
            scene.orders(ORDERS[turn - 1]);
            scene.war.resolve();
            playOn(scene, turn);
            scene.isIn(1, turn + 1).stands(BEHIND[turn - 1]);
        }
        return scene;
    }

    private static void playOn(Scene scene, int turn) {
        switch (turn) {
            case 1:
                scene.isIn(2, 1).retreat(1, 3, 0).finish(1);
                break;
            case 4:
                scene.isIn(3, 4).build(0, 0, 0, 0).finish(1);
                break;
            case 5:
                scene.isIn(2, 5).retreat(3, 1, 0).finish(1);
                break;
            case 7:
                scene.isIn(2, 7).finish(1);
                break;
            default:
                break;
        }
    }

    private static String lookOf(Scene scene) {
        Story story = new Story(scene.war, 5);
        story.look();
        return story.toString();
    }

    private static boolean isAsBefore(Scene scene, int turn) {
        return lookOf(scene).equals(lookOf(campaign(turn - 1).orders(ORDERS[turn - 1])));
    }

    private static void eachOfTheLastEight() {
        for (int turns = 1; turns <= ORDERS.length; turns++) {
            int most = Math.min(turns, MOST);
            for (int back = 1; back <= most; back++) {
                Scene scene = campaign(turns);
                for (int i = 0; i < back; i++) {
                    scene.undo(true);
                }
                int turn = turns - back + 1;
                CHECK.due("all is as before turn " + turn + " of " + turns, isAsBefore(scene, turn), true);
                if (back == most) {
                    scene.undo(false);
                    CHECK.due("nothing changed behind it", isAsBefore(scene, turn), true);
                }
            }
        }
    }

    private static void inTheMiddleOfATurn() {
        // From the RETREATS of turn 5 and from the BUILDS of turn 4.
        Scene retreats = campaign(4).orders(ORDERS[4]);
        retreats.war.resolve();
        retreats.isIn(2, 5).retreat(3, 1, 0).undo(true);
        CHECK.due("all is as before turn 5", isAsBefore(retreats, 5), true);
        Scene builds = campaign(3).orders(ORDERS[3]);
        builds.war.resolve();
        builds.isIn(3, 4).build(0, 0, 0, 0).undo(true);
        CHECK.due("all is as before turn 4", isAsBefore(builds, 4), true);
        builds.undo(true);
        CHECK.due("all is as before turn 3", isAsBefore(builds, 3), true);
    }

    private static void theNinthIsLost() {
        for (int turns = MOST; turns <= 3 * MOST; turns++) {
            SheetWar war = march(turns, MOST);
            CHECK.due("turn() behind eight undo() of " + turns, war.turn(), turns - MOST + 1);
            CHECK.due("the army", war.at((turns - MOST) % 2), 0);
            CHECK.due("its order", war.told((turns - MOST) % 2, 1), (turns - MOST + 1) % 2);
            CHECK.due("undo() for the ninth time", war.undo(), false);
            CHECK.due("turn() behind it", war.turn(), turns - MOST + 1);
        }
    }

    /** What is kept goes round: wherever it begins, eight can be taken back, and no more. */
    private static void roundAndRound() {
        for (int first = 1; first <= MOST; first++) {
            Scene scene = new Scene(CHECK, "round", "H0 L", "0-1", "0:A0");
            for (int turn = 1; turn <= first; turn++) {
                scene.settles(0, 1, 0);
            }
            for (int turn = first; turn >= 1; turn--) {
                scene.undo(true).isIn(1, turn);
            }
            scene.undo(false).isIn(1, 1);
            for (int turn = 1; turn <= MOST + 2; turn++) {
                scene.settles(0, 1, 0);
            }
            for (int turn = MOST + 2; turn >= 3; turn--) {
                scene.undo(true).isIn(1, turn);
            }
            scene.undo(false).isIn(1, 3);
        }
    }

    private static void finishIsNoResolve() {
        // One resolve, then RETREATS and BUILDS end: one undo takes all of it back.
        Scene scene = new Scene(CHECK, "one resolve", "H0 L L L", Scene.allOf(4), "0:A0 1:A1 2:A0");
        scene.settles(0, 1, 1, 1, 0).orders("0-1, 2 s 0-1").settles(1, 1, 4, 1, 0).isIn(2, 2);
        scene.retreat(1, 3, 0).finish(3).isIn(3, 2).build(1, 3, 2, 0).finish(1).isIn(1, 3);
        scene.undo(true).isIn(1, 2).stands("0:A0 1:A1 2:A0").told(0, 1, 1, 0).told(2, 2, 0, 1).tells(1, 1, 1, 0);
        scene.undo(true).isIn(1, 1).tells(0, 0, 0, 0).undo(false);
    }

    private static void whatWasSaidIsForgotten() {
        // A retreat that was said, and a unit that was built, before it was taken back.
        Scene scene = new Scene(CHECK, "forgotten", "H0 H0 L L L", Scene.allOf(5), "2:A0 3:A1 4:A0");
        scene.orders("2-3, 4 s 2-3").settles(1, 0, 0, 1, 4, 1).retreat(3, 2, 2).retreat(3, 0, 0).undo(true);
        scene.isIn(1, 1).settles(1, 0, 0, 1, 4, 1).isIn(2, 1).finish(1).stands("3:A0 4:A0").counts(1, 0, 0);
        Scene built = new Scene(CHECK, "built", "H0 H0 L", Scene.allOf(3), "");
        built.settles(0, 0, 0, 0).settles(0, 0, 0, 0).isIn(3, 2).build(0, 0, 0, 0).build(0, 1, 0, 0).undo(true);
        built.isIn(1, 2).stands("").told(0, -1, -1, -1).settles(0, 0, 0, 0).isIn(3, 2).stands("").build(0, 0, 0, 0);
        // Orders that were given behind it are gone; those before it are there again.
        Scene orders = new Scene(CHECK, "orders", "L L L", Scene.allOf(3), "0:A0").orders("0-1").settles(1, 1, 0, 0);
        orders.orders("1-2").undo(true).told(0, 1, 1, 0).told(1, -1, -1, -1).orders("0 h").settles(0, 1, 0, 0);
        orders.undo(true).told(0, 0, 0, 0);
    }

    private static void refusedCallsAreNoTurns() {
        // A resolve that is refused, and an undo that answers false, can't be taken back.
        Scene scene = new Scene(CHECK, "refused", "L L L L", Scene.allOf(4), "0:A0 1:A1 2:A0");
        scene.undo(false).orders("0-1, 2 s 0-1").settles(1, 1, 4, 1, 0).isIn(2, 1);
        CHECK.refusesState("resolve() in RETREATS", scene.war::resolve);
        scene.undo(true).isIn(1, 1).undo(false).isIn(1, 1).stands("0:A0 1:A1 2:A0");
    }
}
