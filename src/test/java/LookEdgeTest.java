/** The edges of promises 8 and 13 to 20: each answer 0, NONE or false of what only looks, one reason at a time. */
public final class LookEdgeTest {
    private static final int NONE = SheetWar.NONE;
    private static final int MIN = Integer.MIN_VALUE;
    private static final int MAX = Integer.MAX_VALUE;
    private static final Check CHECK = new Check("LookEdgeTest");

    public static void main(String[] args) {
        resultBeforeAnyResolve();
        resultWithoutAUnit();
        resultOfNoSuchArea();
        resultOfEachOrder();
        resultOfDisplacedOnes();
        phaseOfEach();
        turnInSetUp();
        atWithoutAUnit();
        atOfNoSuchArea();
        displacedWithoutOne();
        displacedOfNoSuchArea();
        mayGoOfNobody();
        mayGoOfNoSuchAreas();
        mayGoNowhereElse();
        ownerOfNobodys();
        ownerOfNoSuchArea();
        countOfNothing();
        countOfNoSuchPlayer();
        countOfAnotherWhat();
        toldOfWhatItHasNot();
        toldWithoutAUnit();
        toldNotInOrders();
        toldOfAnotherWhat();
        toldOfNoSuchArea();
        CHECK.end();
    }

    private static int[] beside(int size) {
        return new int[] {-1, -2, size, 11, 12, 31, 32, 33, 64, MIN, MIN + 1, MAX};
    }

    private static Scene land(String title, int size, String units) {
        return new Scene(CHECK, title, "L ".repeat(size), Scene.allOf(size), units);
    }

    /** In RETREATS: the army of player 1 has lost 1 to that from 0; 3 is free. */
    private static Scene displaced(String title) {
        return land(title, 4, "0:A0 1:A1 2:A0").orders("0-1, 2 s 0-1").settles(1, 1, 4, 1, 0).isIn(2, 1);
    }

    private static void resultBeforeAnyResolve() {
        SheetWar early = Scene.setUp("L L", "0-1", "0:A0");
        CHECK.due("result(0) in SET-UP", early.result(0), 0);
        CHECK.due("result(1) in SET-UP", early.result(1), 0);
        early.start();
        CHECK.due("result(0) in ORDERS", early.result(0), 0);
        early.order(0, 0, 1, 1, 0);
        CHECK.due("result(0) of a MOVE that waits", early.result(0), 0);
        early.resolve();
        CHECK.due("result(0) behind resolve()", early.result(0), 1);
        early.undo();
        CHECK.due("result(0) behind undo()", early.result(0), 0);
    }

    private static void resultWithoutAUnit() {
        // Where a unit is now, but wasn't: it came, it was saved, it was built.
        land("came", 3, "0:A0").orders("0-1").settles(1, 1, 0, 0).stands("1:A0").settles(0, 0, 1, 0);
        displaced("saved").retreat(1, 3, 0).finish(1).stands("1:A0 2:A0 3:A1").tells(1, 4, 1, 0);
        Scene built = new Scene(CHECK, "built", "H0 L", "0-1", "").settles(0, 0, 0).settles(0, 0, 0);
        built.build(0, 0, 0, 0).tells(0, 0).finish(1).stands("0:A0").tells(0, 0).settles(0, 1, 0);
        // Where one was at an earlier resolve.
        new Scene(CHECK, "earlier", "H0 L L", "0-1 1-2", "0:A0").orders("0-1").settles(1, 1, 0, 0)
                .orders("1-2").settles(1, 0, 1, 0).settles(0, 0, 0, 1);
        displaced("gone").finish(1).settles(0, 0, 1, 1, 0);
    }

    private static void resultOfNoSuchArea() {
        SheetWar war = displaced("no such area").war;
        for (int area : beside(4)) {
            CHECK.due("result(" + area + ")", war.result(area), 0);
        }
    }

    private static void resultOfEachOrder() {
        // A HOLD that is left alone, and one that is attacked in vain.
        land("HOLD", 3, "0:A0 1:A1 2:A1").orders("1-0").settles(0, 1, 2, 1);
        // A CONVOY of one that moves, of one that holds, of one that goes elsewhere; and one attacked in vain.
        String map = "0-2 2-1 2-3";
        new Scene(CHECK, "CONVOY", "L L S S", map, "0:A0 2:F1").orders("0-1, 2 c 0-1").settles(1, 1, 0, 1, 0);
        new Scene(CHECK, "CONVOY of a HOLD", "L L S S", map, "0:A0 2:F1").orders("2 c 0-1").settles(0, 1, 0, 1, 0);
        new Scene(CHECK, "CONVOY of another MOVE", "L L S L", map, "0:A0 2:F1").orders("0-3, 2 c 0-1")
                .settles(0, 2, 0, 1, 0);
        new Scene(CHECK, "CONVOY attacked", "L L S S", map, "0:A0 2:F1 3:F2").orders("0-1, 2 c 0-1, 3-2")
                .settles(1, 1, 0, 1, 2);
        // A SUPPORT that is given though what it is for fails; one that is void; one that is cut.
        land("given for nothing", 5, "0:A0 1:A1 2:A0 3:A1").orders("0-1, 2 s 0-1, 3 s 1").settles(0, 2, 1, 1, 1, 0);
        land("void", 3, "0:A0 1:A1").orders("0 s 1-2").settles(0, 3, 1, 0);
        land("cut", 4, "0:A0 1:A1 2:A0 3:A1").orders("0-1, 2 s 0-1, 3-2").settles(0, 2, 1, 3, 2);
    }

    private static void resultOfDisplacedOnes() {
        land("a HOLD", 4, "0:A0 1:A1 2:A0").orders("0-1, 2 s 0-1").settles(1, 1, 4, 1, 0);
        land("a MOVE that failed", 4, "0:A0 1:A1 2:A0 3:A2").orders("0-1, 2 s 0-1, 1-3").settles(1, 1, 4, 1, 1);
        land("a SUPPORT that was cut", 5, "0:A0 1:A1 2:A0 3:A1 4:A2").orders("0-1, 2 s 0-1, 1 s 3-4, 3-4")
                .settles(1, 1, 4, 1, 2, 1);
        land("a void SUPPORT", 5, "0:A0 1:A1 2:A0 3:A1").orders("0-1, 2 s 0-1, 1 s 3-4").settles(1, 1, 4, 1, 1, 0);
        // The MOVE comes from where the SUPPORT goes, so nothing but its success takes the SUPPORT away.
        land("a SUPPORT that was not cut", 5, "0:A0 1:A1 2:A0 3:A1").orders("0-1, 2 s 0-1, 1 s 3-0, 3-0")
                .settles(2, 1, 4, 1, 1, 0);
        new Scene(CHECK, "a CONVOY", "L L S S S", "0-2 2-1 2-3 2-4 3-4", "0:A0 2:F0 3:F1 4:F1")
                .orders("0-1, 2 c 0-1, 3-2, 4 s 3-2").settles(1, 2, 0, 4, 1, 1);
    }

    private static void phaseOfEach() {
        SheetWar early = new SheetWar();
        CHECK.due("SET-UP", early.phase(), 0);
        Scene scene = displaced("phases").retreat(1, 3, 0).finish(1).isIn(1, 2);
        scene.settles(0, 0, 1, 1, 1).isIn(3, 2).finish(1).isIn(1, 3);
    }

    private static void turnInSetUp() {
        SheetWar early = new SheetWar();
        CHECK.due("turn() of a new object", early.turn(), 0);
        early.area(0, false, NONE);
        early.unit(0, 0, 0);
        CHECK.due("turn() in SET-UP", early.turn(), 0);
        CHECK.due("undo() in SET-UP", early.undo(), false);
        CHECK.due("turn() behind undo()", early.turn(), 0);
        CHECK.refusesState("resolve() in SET-UP", early::resolve);
        CHECK.due("turn() behind resolve()", early.turn(), 0);
        early.start();
        CHECK.due("turn() behind start()", early.turn(), 1);
    }

    private static void atWithoutAUnit() {
        SheetWar early = Scene.setUp("L S", "0-1", "");
        CHECK.due("at(0) before a unit", early.at(0), NONE);
        CHECK.due("at(1) before a unit", early.at(1), NONE);
        early.unit(0, 0, 0);
        CHECK.due("at(0), an army of 0", early.at(0), 0);
        // One left, one was displaced and isn't saved, one was removed, one too many is gone.
        land("left", 2, "0:A0").orders("0-1").settles(1, 1, 0).stands("1:A0");
        Scene gone = displaced("gone").stands("1:A0 2:A0").finish(1).stands("1:A0 2:A0");
        gone.settles(0, 0, 1, 1, 0).isIn(3, 2).build(0, 1, 2, 0).stands("2:A0").finish(1).stands("");
    }

    private static void atOfNoSuchArea() {
        SheetWar war = land("no such area", 4, "0:A0 1:A1 2:A2 3:A3").war;
        for (int area : beside(4)) {
            CHECK.due("at(" + area + ")", war.at(area), NONE);
        }
    }

    private static void displacedWithoutOne() {
        SheetWar early = Scene.setUp("L L", "0-1", "0:A0");
        CHECK.due("displaced(0) in SET-UP", early.displaced(0), NONE);
        land("in ORDERS", 3, "0:A0 1:A1").aside("").orders("0-1").settles(0, 2, 1, 0).aside("");
        // In RETREATS it is that one alone; then nobody, saved or not, or taken back.
        displaced("in RETREATS").aside("1:A1").finish(1).aside("");
        displaced("saved").retreat(1, 3, 0).aside("1:A1").finish(1).aside("").settles(0, 0, 1, 1, 1).isIn(3, 2)
                .aside("");
        displaced("taken back").undo(true).aside("");
    }

    private static void displacedOfNoSuchArea() {
        SheetWar war = displaced("no such area").war;
        for (int area : beside(4)) {
            CHECK.due("displaced(" + area + ")", war.displaced(area), NONE);
        }
    }

    private static void mayGoOfNobody() {
        SheetWar early = Scene.setUp("L L", "0-1", "0:A0");
        CHECK.due("mayGo(0, 1) in SET-UP", early.mayGo(0, 1), false);
        early.start();
        CHECK.due("mayGo(0, 1) in ORDERS", early.mayGo(0, 1), false);
        // In RETREATS: of units that aren't displaced, and of nobody; then of none at all.
        displaced("in RETREATS").mayGo(1, "3").mayGo(0, "").mayGo(2, "").mayGo(3, "");
        displaced("behind RETREATS").finish(1).mayGo(1, "");
        displaced("taken back").undo(true).mayGo(1, "");
        displaced("in BUILDS").finish(1).settles(0, 0, 1, 1, 0).isIn(3, 2).mayGo(1, "");
    }

    private static void mayGoOfNoSuchAreas() {
        SheetWar war = displaced("no such area").war;
        for (int area : beside(4)) {
            CHECK.due("mayGo(" + area + ", 3)", war.mayGo(area, 3), false);
            CHECK.due("mayGo(1, " + area + ")", war.mayGo(1, area), false);
        }
        CHECK.due("mayGo(1, 3)", war.mayGo(1, 3), true);
    }

    private static void mayGoNowhereElse() {
        // Not to 0, from where the MOVE came, to 1 itself, to 2 with a unit, over no border to 4, to SEA at 5, nor to
        // the contested 6; but to 3.
        String units = "0:A0 1:A1 2:A0 7:A2 8:A3";
        new Scene(CHECK, "an army", "L L L L L S L L L", "0-1 1-2 0-2 1-3 3-4 1-5 1-6 6-7 6-8", units)
                .orders("0-1, 2 s 0-1, 7-6, 8-6").settles(1, 1, 4, 1, 0, 0, 0, 0, 2, 2).mayGo(1, "3");
        // A fleet at LAND: not to LAND at 3 and 4, but to SEA at 5.
        new Scene(CHECK, "a fleet", "L L L L L S", "0-1 1-2 0-2 1-3 3-4 1-5", "0:A0 1:F1 2:A0")
                .orders("0-1, 2 s 0-1").settles(1, 1, 4, 1, 0, 0, 0).mayGo(1, "5");
        // What has been said already takes no place away from another one.
        Scene two = land("two", 7, "0:A0 1:A1 2:A0 3:A0 4:A2 5:A0").orders("0-1, 2 s 0-1, 3-4, 5 s 3-4");
        two.settles(2, 1, 4, 1, 1, 4, 1, 0).retreat(1, 6, 0).mayGo(4, "0 6").mayGo(1, "3 6").retreat(4, 6, 0);
        two.mayGo(4, "0 6").mayGo(1, "3 6").finish(1).stands("1:A0 2:A0 4:A0 5:A0");
    }

    private static void ownerOfNobodys() {
        // LAND that is no center, and SEA, with units at them; a center without.
        Scene scene = new Scene(CHECK, "nobody's", "L S C C H0", "0-1", "0:A0 1:F1 3:A2");
        scene.owners(NONE, NONE, NONE, NONE, 0).settles(0, 1, 1, 0, 1, 0).owners(NONE, NONE, NONE, NONE, 0);
        scene.settles(0, 1, 1, 0, 1, 0).owners(NONE, NONE, NONE, 2, 0);
    }

    private static void ownerOfNoSuchArea() {
        SheetWar war = new Scene(CHECK, "no such area", "H0 H1 H2 H3", "", "").war;
        for (int area : beside(4)) {
            CHECK.due("owner(" + area + ")", war.owner(area), NONE);
        }
    }

    private static void countOfNothing() {
        new Scene(CHECK, "nothing", "H0 L C", "", "1:A3").counts(0, 1, 0).counts(1, 0, 0).counts(2, 0, 0)
                .counts(3, 0, 1);
        new Scene(CHECK, "nothing at all", "", "", "").counts(0, 0, 0).counts(3, 0, 0);
    }

    private static void countOfNoSuchPlayer() {
        Scene scene = new Scene(CHECK, "no such player", "H0 H1 H2 H3 C L", "", "0:A0 1:A1 2:A2 3:A3");
        for (int player : new int[] {-1, -2, 4, 5, MIN, MAX}) {
            scene.counts(player, 0, 0);
        }
    }

    private static void countOfAnotherWhat() {
        SheetWar war = new Scene(CHECK, "another what", "H0 H3", "", "0:A0 1:A3").war;
        for (int what : new int[] {-1, 2, 3, MIN, MAX}) {
            CHECK.due("count(0, " + what + ")", war.count(0, what), 0);
            CHECK.due("count(3, " + what + ")", war.count(3, what), 0);
            CHECK.due("count(-1, " + what + ")", war.count(-1, what), 0);
        }
    }

    private static void toldOfWhatItHasNot() {
        Scene scene = land("told", 5, "1:A0 2:A1 4:A2").told(1, 0, 0, 0);
        // What an earlier order had is told no more.
        scene.orders("1 s 2-3").told(1, 2, 2, 3).orders("1-4").told(1, 1, 4, 0).orders("1 h").told(1, 0, 0, 0);
        // Each ORDERS begin with HOLD.
        scene.orders("1-3, 2 s 4").settles(1, 0, 1, 1, 0, 1).told(3, 0, 0, 0).told(2, 0, 0, 0).told(4, 0, 0, 0);
    }

    private static void toldWithoutAUnit() {
        Scene scene = land("no unit", 3, "0:A0").told(1, NONE, NONE, NONE).told(2, NONE, NONE, NONE);
        scene.orders("0-1").told(1, NONE, NONE, NONE).settles(1, 1, 0, 0).told(0, NONE, NONE, NONE);
    }

    private static void toldNotInOrders() {
        SheetWar early = Scene.setUp("L L", "0-1", "0:A0");
        Scene retreats = displaced("RETREATS");
        Scene builds = displaced("BUILDS").finish(1).orders("1-0").settles(1, 0, 1, 1, 0).isIn(3, 2);
        for (int what = 0; what <= 2; what++) {
            CHECK.due("told(0, " + what + ") in SET-UP", early.told(0, what), NONE);
            for (int area = 0; area < 4; area++) {
                CHECK.due("told() in RETREATS", retreats.war.told(area, what), NONE);
                CHECK.due("told() in BUILDS", builds.war.told(area, what), NONE);
            }
        }
    }

    private static void toldOfAnotherWhat() {
        SheetWar war = land("another what", 3, "0:A0 1:A1").orders("0 s 1-2").war;
        for (int what : new int[] {-1, 3, 4, MIN, MAX}) {
            CHECK.due("told(0, " + what + ")", war.told(0, what), NONE);
        }
    }

    private static void toldOfNoSuchArea() {
        SheetWar war = land("no such area", 2, "0:A0 1:A1").war;
        for (int area : beside(2)) {
            for (int what = 0; what <= 2; what++) {
                CHECK.due("told(" + area + ", " + what + ")", war.told(area, what), NONE);
            }
        }
    }
}
