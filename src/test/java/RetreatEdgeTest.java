/** The edges of promises 9 and 11: each refusal of retreat and of finish, and how RETREATS come, one at a time. */
public final class RetreatEdgeTest {
    private static final int MIN = Integer.MIN_VALUE;
    private static final int MAX = Integer.MAX_VALUE;
    private static final Check CHECK = new Check("RetreatEdgeTest");
    private static final Phases PHASES = new Phases(CHECK);
    private static final int[] BESIDE = {-1, Phases.SIZE, 11, 12, 32 + 4, MIN, MAX};

    // The army of player 1 at 1 is displaced from 0 with the support of 2. It may go to 3 and to 4, which border 1, and
    // is to go to 3. 5 borders 4 alone; 6 is SEA.
    private static final String AREAS = "L L L L L L S";
    private static final String BORDERS = "0-1 1-2 0-2 1-3 1-4 4-5 1-6";

    public static void main(String[] args) {
        noSuchPlayer();
        noSuchArea();
        noSuchGoal();
        retreatIsNotInRetreats();
        playerHasNoneThere();
        notOverNoBorder();
        notToItsOwnArea();
        armyNotToSea();
        fleetNotToLand();
        notWhereAUnitStayed();
        notWhereAUnitCame();
        notWhereContested();
        notWhereTheAttackCameFrom();
        canRetreat();
        refusedBeforeAnythingWasSaid();
        finishIsInNeither();
        phaseBehindFinish();
        CHECK.end();
    }

    private static Twins twins(String title, String moreUnits, String moreOrders) {
        return new Twins(CHECK, title, 7, () -> {
            Scene scene = new Scene(CHECK, title, AREAS, BORDERS, "0:A0 1:A1 2:A0 " + moreUnits);
            return displaced(scene.orders("0-1, 2 s 0-1" + moreOrders));
        });
    }

    private static SheetWar displaced(Scene scene) {
        CHECK.due("a unit is displaced", scene.war.resolve() > 0 && scene.war.phase() == 2, true);
        return scene.retreat(1, 1, 3, 0).war;
    }

    private static void noSuchPlayer() {
        for (int player : new int[] {-1, 4, MIN, MAX}) {
            PHASES.in(Phases.RETREATS).refusesArgument("player " + player, war -> war.retreat(player, 1, 4));
        }
    }

    private static void noSuchArea() {
        for (int area : BESIDE) {
            PHASES.in(Phases.RETREATS).refusesArgument("from " + area, war -> war.retreat(1, area, 4));
        }
    }

    private static void noSuchGoal() {
        for (int to : BESIDE) {
            PHASES.in(Phases.RETREATS).refusesArgument("to " + to, war -> war.retreat(1, 1, to));
        }
    }

    private static void retreatIsNotInRetreats() {
        for (Twins twins : PHASES.beside(Phases.RETREATS)) {
            twins.refusesState("retreat(1, 1, 4)", war -> war.retreat(1, 1, 4));
        }
        Twins behind = new Twins(CHECK, "behind RETREATS", 7, () -> {
            SheetWar war = displaced(new Scene(CHECK, "behind", AREAS, BORDERS, "0:A0 1:A1 2:A0")
                    .orders("0-1, 2 s 0-1"));
            CHECK.due("finish()", war.finish(), 1);
            return war;
        });
        behind.refusesState("retreat(1, 1, 4)", war -> war.retreat(1, 1, 4));
        behind.refusesState("retreat(1, 3, 1)", war -> war.retreat(1, 3, 1));
    }

    private static void playerHasNoneThere() {
        Twins war = twins("whose", "5:A1", "");
        for (int player : new int[] {0, 2, 3}) {
            war.answers("player " + player + "'s", 1, w -> w.retreat(player, 1, 4));
        }
        // Nobody; a unit of player 0; one of player 1 that isn't displaced; where the attack came from.
        war.answers("none at 3", 1, w -> w.retreat(1, 3, 4));
        war.answers("none at 2", 1, w -> w.retreat(0, 2, 0));
        war.answers("none at 5", 1, w -> w.retreat(1, 5, 4));
        war.answers("none at 0", 1, w -> w.retreat(1, 0, 4));
        war.answers("the one that displaced it", 1, w -> w.retreat(0, 1, 0));
    }

    private static void notOverNoBorder() {
        twins("no border", "", "").answers("to 5", 2, war -> war.retreat(1, 1, 5));
    }

    private static void notToItsOwnArea() {
        twins("its own area", "", "").answers("to 1", 2, war -> war.retreat(1, 1, 1));
    }

    private static void armyNotToSea() {
        twins("an army", "", "").answers("to SEA", 2, war -> war.retreat(1, 1, 6));
    }

    private static void fleetNotToLand() {
        // At LAND it may go to 3, which is SEA, but not to 4, which isn't.
        Twins coast = new Twins(CHECK, "a fleet at LAND", 6, () -> displaced(new Scene(CHECK, "coast",
                "L L L S L S", "0-1 1-2 0-2 1-3 1-4 3-5", "0:A0 1:F1 2:A0").orders("0-1, 2 s 0-1")));
        coast.answers("to LAND", 2, war -> war.retreat(1, 1, 4));
        coast.answers("to SEA beyond SEA", 2, war -> war.retreat(1, 1, 5));
        Twins sea = new Twins(CHECK, "a fleet at SEA", 6, () -> displaced(new Scene(CHECK, "sea",
                "S S S S L L", "0-1 1-2 0-2 1-3 1-4 3-5", "0:F0 1:F1 2:F0").orders("0-1, 2 s 0-1")));
        sea.answers("to LAND beyond SEA", 2, war -> war.retreat(1, 1, 5));
        sea.allows("to LAND that borders", war -> CHECK.due("to 4", war.retreat(1, 1, 4), 0));
    }

    private static void notWhereAUnitStayed() {
        twins("a unit that supports", "", "").answers("to 2", 2, war -> war.retreat(1, 1, 2));
        twins("another player's unit", "4:A2", "").answers("to 4", 2, war -> war.retreat(1, 1, 4));
        twins("a unit of its own player", "4:A1", "").answers("to 4", 2, war -> war.retreat(1, 1, 4));
        // It stays, as the SEA carries nobody.
        twins("a unit that failed to move", "4:A2", ", 4-3").answers("to 4", 2, war -> war.retreat(1, 1, 4));
    }

    private static void notWhereAUnitCame() {
        twins("a unit came", "5:A2", ", 5-4").answers("to 4", 2, war -> war.retreat(1, 1, 4));
        Twins left = twins("a unit left", "4:A2", ", 4-5");
        left.answers("to 5", 2, war -> war.retreat(1, 1, 5));
        left.allows("to 4, which was left", war -> CHECK.due("to 4", war.retreat(1, 1, 4), 0));
    }

    private static void notWhereContested() {
        // Its own MOVE and that from 5 stopped one another at 4.
        twins("contested by itself", "5:A2", ", 1-4, 5-4").answers("to 4", 2, war -> war.retreat(1, 1, 4));
        // Two others did. 6 is LAND here, and borders 4.
        Twins others = new Twins(CHECK, "contested by others", 7, () -> displaced(new Scene(CHECK, "contested",
                "L L L L L L L", "0-1 1-2 0-2 1-3 1-4 4-5 4-6", "0:A0 1:A1 2:A0 5:A2 6:A3")
                .orders("0-1, 2 s 0-1, 5-4, 6-4")));
        others.answers("to 4", 2, war -> war.retreat(1, 1, 4));
    }

    private static void notWhereTheAttackCameFrom() {
        twins("from 0", "", "").answers("to 0", 2, war -> war.retreat(1, 1, 0));
        // Head-on, too.
        twins("head-on", "", ", 1-0").answers("to 0", 2, war -> war.retreat(1, 1, 0));
    }

    private static void canRetreat() {
        twins("allowed", "", "").allows("to 4", war -> CHECK.due("to 4", war.retreat(1, 1, 4), 0));
        SheetWar war = displaced(new Scene(CHECK, "again", AREAS, BORDERS, "0:A0 1:A1 2:A0").orders("0-1, 2 s 0-1"));
        CHECK.due("the same again", war.retreat(1, 1, 3), 0);
        CHECK.due("finish()", war.finish(), 1);
        CHECK.due("at(3)", war.at(3), 2);
    }

    private static void refusedBeforeAnythingWasSaid() {
        Scene scene = new Scene(CHECK, "refused", AREAS, BORDERS, "0:A0 1:A1 2:A0").orders("0-1, 2 s 0-1");
        scene.settles(1, 1, 4, 1, 0, 0, 0, 0);
        scene.retreat(0, 1, 4, 1).retreat(1, 1, 0, 2).retreat(1, 1, 5, 2).retreat(1, 3, 4, 1).aside("1:A1");
        scene.finish(1).stands("1:A0 2:A0").aside("").counts(1, 0, 0);
    }

    private static void finishIsInNeither() {
        PHASES.in(Phases.SET_UP).refusesState("finish()", SheetWar::finish);
        PHASES.in(Phases.ORDERS).refusesState("finish()", SheetWar::finish);
        SheetWar none = new SheetWar();
        CHECK.refusesState("finish() in SET-UP without areas", none::finish);
        none.start();
        CHECK.refusesState("finish() in ORDERS without areas", none::finish);
        CHECK.due("turn() behind it", none.turn(), 1);
    }

    private static void phaseBehindFinish() {
        String map = "0-1 1-2 0-2 1-3";
        // Behind turn 1 no center changes, and nobody builds, whoever has too many.
        new Scene(CHECK, "turn 1", "C C C L", map, "0:A0 1:A1 2:A0").orders("0-1, 2 s 0-1").settles(1, 1, 4, 1, 0)
                .finish(1).isIn(1, 2).owners(-1, -1, -1, -1);
        // Behind turn 2 they change when the retreats are over; player 1 has too many if the unit is saved.
        Scene saved = new Scene(CHECK, "turn 2, saved", "L C C L", map, "0:A0 1:A1 2:A0");
        saved.settles(0, 1, 1, 1, 0).orders("0-1, 2 s 0-1").settles(1, 1, 4, 1, 0).owners(-1, -1, -1, -1);
        saved.retreat(1, 3, 0).finish(3).isIn(3, 2).owners(-1, 0, 0, -1).counts(0, 2, 2).counts(1, 0, 1);
        saved.finish(1).isIn(1, 3).stands("1:A0 2:A0");
        Scene gone = new Scene(CHECK, "turn 2, gone", "L C C L", map, "0:A0 1:A1 2:A0");
        gone.settles(0, 1, 1, 1, 0).orders("0-1, 2 s 0-1").settles(1, 1, 4, 1, 0).isIn(2, 2);
        gone.finish(1).isIn(1, 3).owners(-1, 0, 0, -1).counts(1, 0, 0);
    }
}
