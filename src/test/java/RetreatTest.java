/** Promises 9, 11, 16 and 17: retreat, finish, displaced and mayGo. */
public final class RetreatTest {
    private static final int NONE = SheetWar.NONE;
    private static final Check CHECK = new Check("RetreatTest");

    public static void main(String[] args) {
        Scene.inAllWays(RetreatTest::whereToGo);
        Scene.inAllWays(RetreatTest::whoGoes);
        arguments();
        states();
        CHECK.end();
    }

    private static void whereToGo() {
        armiesMayGo();
        fleetsMayGo();
        contestedAreas();
        contestedByTheBeaten();
        notContestedAreas();
        strandedArmy();
        attackedBySea();
    }

    private static void whoGoes() {
        retreats();
        noRetreat();
        sameRetreat();
        answers();
        finish();
    }

    private static Scene land(String title, int size, String units) {
        return new Scene(CHECK, title, "L ".repeat(size), Scene.allOf(size), units);
    }

    /** The army of 1 at 1 is displaced from 0; free are 3 and up. */
    private static Scene displacedOne(String title, int size, String moreUnits, String moreOrders) {
        Scene scene = land(title, size, "0:A0 1:A1 2:A0 " + moreUnits);
        scene.orders("0-1, 2 s 0-1" + moreOrders);
        CHECK.due(title + ": moves", scene.war.resolve() > 0, true);
        return scene.isIn(2, 1).aside("1:A1");
    }

    private static void armiesMayGo() {
        // Not to 0, where the attack came from, nor 1, 2 and 3, where units are, nor over no border to 5, nor to SEA.
        new Scene(CHECK, "an army", "L L L L L L S", "0-1 1-2 1-3 1-4 4-5 1-6 0-2", "0:A0 1:A1 2:A0 3:A2")
                .orders("0-1, 2 s 0-1").settles(1, 1, 4, 1, 1, 0, 0, 0).isIn(2, 1).aside("1:A1").mayGo(1, "4")
                .mayGo(0, "").mayGo(2, "").mayGo(4, "").mayGo(-1, "").mayGo(7, "");
        displacedOne("a place that was left", 5, "3:A2", ", 3-4").mayGo(1, "3");
        displacedOne("a place that was taken", 5, "3:A2", ", 3-4").stands("1:A0 2:A0 4:A2");
    }

    private static void fleetsMayGo() {
        // At SEA: to SEA and to coasts. 0 is where the attack came from.
        new Scene(CHECK, "a fleet at SEA", "S S S L S L", "0-1 1-2 0-2 1-3 1-4 4-5", "0:F0 1:F1 2:F0")
                .orders("0-1, 2 s 0-1").settles(1, 1, 4, 1, 0, 0, 0).aside("1:F1").mayGo(1, "3 4");
        // At LAND: to SEA alone.
        new Scene(CHECK, "a fleet at LAND", "L L L S L", "0-1 1-2 0-2 1-3 1-4", "0:A0 1:F1 2:A0")
                .orders("0-1, 2 s 0-1").settles(1, 1, 4, 1, 0, 0).aside("1:F1").mayGo(1, "3");
        new Scene(CHECK, "from SEA to LAND", "S L S S", "0-1 1-2 0-2 1-3", "0:F0 1:A1 2:F0")
                .orders("0-1, 2 s 0-1").settles(1, 1, 4, 1, 0).aside("1:A1").mayGo(1, "");
    }

    private static void contestedAreas() {
        displacedOne("two moves stopped one another", 7, "4:A2 5:A3", ", 4-3, 5-3").mayGo(1, "6");
        displacedOne("its own move was stopped", 7, "4:A2", ", 1-3, 4-3").mayGo(1, "5 6");
        // As above, with the areas the other way round: 6 is displaced from 5, and 0 and 1 stop one another at 3.
        land("from the first area", 7, "0:A2 1:A3 4:A0 5:A0 6:A1").orders("5-6, 4 s 5-6, 0-3, 1-3")
                .settles(1, 2, 2, 0, 0, 1, 1, 4).aside("6:A1").mayGo(6, "2");
        land("two contested areas", 10, "0:A0 1:A1 2:A0 4:A2 5:A3 7:A2 8:A3")
                .orders("0-1, 2 s 0-1, 4-3, 5-3, 7-6, 8-6").settles(1, 1, 4, 1, 0, 2, 2, 0, 2, 2, 0).mayGo(1, "9");
        displacedOne("three moves stopped one another", 7, "4:A2 5:A3", ", 1-3, 4-3, 5-3").mayGo(1, "6");
    }

    private static void contestedByTheBeaten() {
        // 1 is beaten head-on by 0: its MOVE to 0 had a path and failed, and 0 is empty. So 4 may not go there either.
        land("head-on", 7, "0:A0 1:A1 2:A0 3:A0 4:A2 5:A0").orders("0-1, 1-0, 2 s 0-1, 3-4, 5 s 3-4")
                .settles(2, 1, 4, 1, 1, 4, 1, 0).aside("1:A1 4:A2").mayGo(1, "3 6").mayGo(4, "6");
        // Without its MOVE nothing is contested.
        land("not head-on", 7, "0:A0 1:A1 2:A0 3:A0 4:A2 5:A0").orders("0-1, 2 s 0-1, 3-4, 5 s 3-4")
                .settles(2, 1, 4, 1, 1, 4, 1, 0).mayGo(1, "3 6").mayGo(4, "0 6");
    }

    private static void notContestedAreas() {
        // The MOVE from 3 to 4 has no path.
        new Scene(CHECK, "no path", "L L L L L S", "0-1 1-2 0-2 1-4 3-5 5-4", "0:A0 1:A1 2:A0 3:A2 5:F2")
                .orders("0-1, 2 s 0-1, 3-4").settles(1, 1, 4, 1, 2, 0, 1).mayGo(1, "4");
        // Now it has one, and the one from 6 stops it.
        new Scene(CHECK, "a path", "L L L L L S L", "0-1 1-2 0-2 1-4 3-5 5-4 4-6", "0:A0 1:A1 2:A0 3:A2 5:F2 6:A3")
                .orders("0-1, 2 s 0-1, 3-4, 5 c 3-4, 6-4").settles(1, 1, 4, 1, 2, 0, 1, 2).mayGo(1, "");
        // The fleet that carries it is displaced at the end, so it contests nothing.
        new Scene(CHECK, "a path no more", "L L L L L S S S", "0-1 1-2 0-2 1-4 3-5 5-4 5-6 6-7 5-7",
                "0:A0 1:A1 2:A0 3:A2 5:F2 6:F3 7:F3")
                .orders("0-1, 2 s 0-1, 3-4, 5 c 3-4, 6-5, 7 s 6-5").settles(2, 1, 4, 1, 2, 0, 4, 1, 1)
                .mayGo(1, "4").mayGo(5, "4");
    }

    private static void retreats() {
        displacedOne("one", 5, "", "").retreat(1, 3, 0).aside("1:A1").stands("1:A0 2:A0").finish(1)
                .stands("1:A0 2:A0 3:A1").aside("").isIn(1, 2).told(3, 0, 0, 0);
        displacedOne("the latest counts", 5, "", "").retreat(1, 3, 0).retreat(1, 4, 0).finish(1)
                .stands("1:A0 2:A0 4:A1");
        displacedOne("a refused one changes nothing", 5, "", "").retreat(1, 3, 0).retreat(1, 2, 2)
                .retreat(1, 0, 2).retreat(0, 1, 4, 1).finish(1).stands("1:A0 2:A0 3:A1");
    }

    private static void noRetreat() {
        displacedOne("none", 5, "", "").finish(1).stands("1:A0 2:A0").aside("").isIn(1, 2).counts(1, 0, 0);
        displacedOne("none, and one refused", 5, "", "").retreat(1, 2, 2).finish(1).stands("1:A0 2:A0");
    }

    /** Two, or three, are displaced and may go to the areas behind them. */
    private static Scene displacedTwo(String title) {
        return land(title, 9, "0:A0 1:A1 2:A0 3:A0 4:A2 5:A0").orders("0-1, 2 s 0-1, 3-4, 5 s 3-4")
                .settles(2, 1, 4, 1, 1, 4, 1, 0, 0, 0).aside("1:A1 4:A2");
    }

    private static void sameRetreat() {
        displacedTwo("two to one place").retreat(1, 6, 0).retreat(4, 6, 0).finish(1).stands("1:A0 2:A0 4:A0 5:A0");
        land("two from the ends", 7, "0:A1 1:A0 2:A0 4:A0 5:A0 6:A2").orders("1-0, 2 s 1-0, 5-6, 4 s 5-6")
                .settles(2, 4, 1, 1, 0, 1, 1, 4).retreat(0, 3, 0).retreat(6, 3, 0).finish(1)
                .stands("0:A0 2:A0 4:A0 6:A0");
        displacedTwo("two to two places").retreat(1, 6, 0).retreat(4, 7, 0).finish(1)
                .stands("1:A0 2:A0 4:A0 5:A0 6:A1 7:A2");
        displacedTwo("one thinks again").retreat(1, 6, 0).retreat(4, 6, 0).retreat(1, 8, 0).finish(1)
                .stands("1:A0 2:A0 4:A0 5:A0 6:A2 8:A1");
        displacedTwo("one has none").retreat(4, 6, 0).finish(1).stands("1:A0 2:A0 4:A0 5:A0 6:A2");
        // Each may go where the other one's attack came from.
        displacedTwo("crosswise").mayGo(1, "3 6 7 8").mayGo(4, "0 6 7 8").retreat(1, 3, 0).retreat(4, 0, 0)
                .finish(1).stands("0:A2 1:A0 2:A0 3:A1 4:A0 5:A0");
        land("three to one place", 11, "0:A0 1:A1 2:A0 3:A0 4:A2 5:A0 6:A0 7:A3 8:A0")
                .orders("0-1, 2 s 0-1, 3-4, 5 s 3-4, 6-7, 8 s 6-7").settles(3, 1, 4, 1, 1, 4, 1, 1, 4, 1, 0, 0)
                .retreat(1, 9, 0).retreat(4, 9, 0).retreat(7, 9, 0).finish(1)
                .stands("1:A0 2:A0 4:A0 5:A0 7:A0 8:A0");
    }

    private static void answers() {
        displacedOne("answers", 5, "", "").retreat(0, 1, 3, 1).retreat(2, 1, 3, 1).retreat(1, 0, 3, 1)
                .retreat(0, 2, 3, 1).retreat(1, 4, 3, 1).retreat(1, 1, 0, 2).retreat(1, 1, 1, 2).retreat(1, 1, 2, 2)
                .retreat(0, 1, 1, 1).retreat(1, 1, 4, 0);
    }

    private static void arguments() {
        SheetWar war = displacedOne("arguments", 5, "", "").war;
        CHECK.refusesArgument("player -1", () -> war.retreat(-1, 1, 3));
        CHECK.refusesArgument("player 4", () -> war.retreat(4, 1, 3));
        CHECK.refusesArgument("area -1", () -> war.retreat(1, -1, 3));
        CHECK.refusesArgument("area 5", () -> war.retreat(1, 5, 3));
        CHECK.refusesArgument("to -1", () -> war.retreat(1, 1, -1));
        CHECK.refusesArgument("to 5", () -> war.retreat(1, 1, 5));
        CHECK.due("finish()", war.finish(), 1);
        CHECK.due("nobody went", war.count(1, 1), 0);
    }

    private static void states() {
        SheetWar early = new SheetWar();
        early.area(0, false, NONE);
        early.area(0, false, NONE);
        early.border(0, 1);
        CHECK.refusesState("retreat() in SET-UP", () -> early.retreat(0, 0, 1));
        CHECK.refusesState("finish() in SET-UP", early::finish);
        early.unit(0, 0, 0);
        early.start();
        CHECK.refusesState("retreat() in ORDERS", () -> early.retreat(0, 0, 1));
        CHECK.refusesState("finish() in ORDERS", early::finish);
        CHECK.due("mayGo() of one that isn't displaced", early.mayGo(0, 1), false);
        CHECK.due("displaced() of one that isn't", early.displaced(0), NONE);
        early.resolve();
        early.resolve();
        CHECK.due("BUILDS", early.phase(), 3);
        CHECK.refusesState("retreat() in BUILDS", () -> early.retreat(0, 0, 1));
        SheetWar done = displacedOne("done", 5, "", "").finish(1).war;
        CHECK.refusesState("retreat() behind RETREATS", () -> done.retreat(1, 1, 3));
        CHECK.refusesState("finish() behind RETREATS", done::finish);
        CHECK.due("mayGo() behind RETREATS", done.mayGo(1, 3), false);
        for (int area : new int[] {-1, 5, Integer.MIN_VALUE, Integer.MAX_VALUE}) {
            CHECK.due("displaced(" + area + ")", done.displaced(area), NONE);
        }
    }

    private static void strandedArmy() {
        new Scene(CHECK, "nowhere to go", "L L L", Scene.allOf(3), "0:A0 1:A1 2:A0").orders("0-1, 2 s 0-1")
                .settles(1, 1, 4, 1).isIn(2, 1).mayGo(1, "").retreat(1, 0, 2).finish(1).stands("1:A0 2:A0");
    }

    private static void attackedBySea() {
        new Scene(CHECK, "by sea", "L L S L L", "0-2 2-1 1-3 1-4", "0:A0 1:A1 2:F0 3:A0")
                .orders("0-1, 2 c 0-1, 3 s 0-1").settles(1, 1, 4, 1, 1, 0).aside("1:A1").mayGo(1, "4")
                .retreat(1, 4, 0).finish(1).stands("1:A0 2:F0 3:A0 4:A1");
    }

    private static void finish() {
        // Behind turn 2 retreats come before centers are counted.
        Scene scene = new Scene(CHECK, "behind turn 2", "L L L H1 C", Scene.allOf(5), "0:A0 1:A1 2:A0");
        scene.settles(0, 1, 1, 1, 0, 0).isIn(1, 2);
        scene.orders("0-1, 2 s 0-1").settles(1, 1, 4, 1, 0, 0).isIn(2, 2).owners(NONE, NONE, NONE, 1, NONE);
        scene.retreat(1, 4, 0).finish(3).isIn(3, 2).owners(NONE, NONE, NONE, 1, 1).counts(1, 2, 1).aside("");
        scene.finish(1).isIn(1, 3);
    }
}
