/** The edges of promises 2 to 5: each refusal of area, border, unit and start, one reason at a time. */
public final class SetUpEdgeTest {
    private static final int NONE = SheetWar.NONE;
    private static final int MIN = Integer.MIN_VALUE;
    private static final int MAX = Integer.MAX_VALUE;
    private static final Check CHECK = new Check("SetUpEdgeTest");
    private static final Phases PHASES = new Phases(CHECK);
    private static final Twins SET_UP = PHASES.in(Phases.SET_UP);

    public static void main(String[] args) {
        areaKindIsNeither();
        areaHomeIsNoPlayer();
        areaIsCenterAndSea();
        areaHasHomeButIsNoCenter();
        areaIsAllowed();
        areaIsNotInSetUp();
        bordersOfNoSuchTwo();
        bordersOfFewAreas();
        bordersThatAreThere();
        borderIsNotInSetUp();
        unitOfNoSuchArea();
        unitOfNoSuchPlayer();
        unitOfNoSuchKind();
        unitWhereThereIsOne();
        unitThatCannotBeThere();
        unitIsNotInSetUp();
        startIsNotInSetUp();
        CHECK.end();
    }

    private static void areaKindIsNeither() {
        for (int kind : new int[] {-1, 2, 3, MIN, MAX}) {
            SET_UP.refusesArgument("area(" + kind + ", false, NONE)", war -> war.area(kind, false, NONE));
        }
    }

    private static void areaHomeIsNoPlayer() {
        for (int home : new int[] {-2, 4, 5, MIN, MAX}) {
            SET_UP.refusesArgument("area(0, true, " + home + ")", war -> war.area(0, true, home));
        }
    }

    private static void areaIsCenterAndSea() {
        for (int home = NONE; home < 4; home++) {
            int whose = home;
            SET_UP.refusesArgument("area(1, true, " + whose + ")", war -> war.area(1, true, whose));
        }
    }

    private static void areaHasHomeButIsNoCenter() {
        for (int home = 0; home < 4; home++) {
            int whose = home;
            SET_UP.refusesArgument("area(0, false, " + whose + ")", war -> war.area(0, false, whose));
            SET_UP.refusesArgument("area(1, false, " + whose + ")", war -> war.area(1, false, whose));
        }
    }

    private static void areaIsAllowed() {
        SET_UP.allows("area(0, false, NONE)", war -> war.area(0, false, NONE));
        SET_UP.allows("area(1, false, NONE)", war -> war.area(1, false, NONE));
        for (int home = NONE; home < 4; home++) {
            int whose = home;
            SET_UP.allows("area(0, true, " + whose + ")", war -> war.area(0, true, whose));
        }
    }

    private static void areaIsNotInSetUp() {
        for (Twins twins : PHASES.beside(Phases.SET_UP)) {
            twins.refusesState("area(0, false, NONE)", war -> war.area(0, false, NONE));
            twins.refusesState("area(1, false, NONE)", war -> war.area(1, false, NONE));
            twins.refusesState("area(0, true, 3)", war -> war.area(0, true, 3));
        }
    }

    private static void bordersOfNoSuchTwo() {
        for (int beside : new int[] {-1, Phases.SIZE, 11, 12, 31, 32, MIN, MAX}) {
            SET_UP.refusesArgument("border(" + beside + ", 4)", war -> war.border(beside, 4));
            SET_UP.refusesArgument("border(4, " + beside + ")", war -> war.border(4, beside));
        }
        for (int area = 0; area < Phases.SIZE; area++) {
            int same = area;
            SET_UP.refusesArgument("border(" + same + ", " + same + ")", war -> war.border(same, same));
        }
        SET_UP.allows("border(0, 4)", war -> war.border(0, 4));
        SET_UP.allows("border(4, 0)", war -> war.border(4, 0));
    }

    private static void bordersOfFewAreas() {
        SheetWar none = new SheetWar();
        CHECK.refusesArgument("border(0, 0) without areas", () -> none.border(0, 0));
        CHECK.refusesArgument("border(0, 1) without areas", () -> none.border(0, 1));
        SheetWar one = Scene.setUp("L", "", "");
        CHECK.refusesArgument("border(0, 0) of one area", () -> one.border(0, 0));
        CHECK.refusesArgument("border(0, 1) of one area", () -> one.border(0, 1));
        CHECK.due("the second area", one.area(0, false, NONE), 1);
        CHECK.due("border(0, 1) of two areas", one.border(0, 1), true);
    }

    private static void bordersThatAreThere() {
        SET_UP.answersNo("border(0, 1)", war -> war.border(0, 1));
        SET_UP.answersNo("border(1, 0)", war -> war.border(1, 0));
        SET_UP.answersNo("border(3, 2), LAND and SEA", war -> war.border(3, 2));
    }

    private static void borderIsNotInSetUp() {
        for (Twins twins : PHASES.beside(Phases.SET_UP)) {
            twins.refusesState("border(0, 2), a new one", war -> war.border(0, 2));
            twins.refusesState("border(0, 1), an old one", war -> war.border(0, 1));
        }
    }

    private static void unitOfNoSuchArea() {
        for (int area : new int[] {-1, Phases.SIZE, 11, 12, 32 + 4, MIN, MAX}) {
            SET_UP.refusesArgument("unit(" + area + ", 0, 0)", war -> war.unit(area, 0, 0));
        }
        SheetWar none = new SheetWar();
        CHECK.refusesArgument("unit(0, 0, 0) without areas", () -> none.unit(0, 0, 0));
    }

    private static void unitOfNoSuchPlayer() {
        for (int player : new int[] {-1, 4, MIN, MAX}) {
            SET_UP.refusesArgument("unit(4, " + player + ", 0)", war -> war.unit(4, player, 0));
        }
        for (int player = 0; player < 4; player++) {
            int whose = player;
            SET_UP.allows("unit(4, " + whose + ", 0)", war -> war.unit(4, whose, 0));
        }
    }

    private static void unitOfNoSuchKind() {
        for (int kind : new int[] {-1, 2, 3, MIN, MAX}) {
            SET_UP.refusesArgument("unit(4, 0, " + kind + ")", war -> war.unit(4, 0, kind));
        }
    }

    private static void unitWhereThereIsOne() {
        SET_UP.refusesState("unit(0, 0, 0), the same once more", war -> war.unit(0, 0, 0));
        SET_UP.refusesState("unit(0, 3, 0), another player's", war -> war.unit(0, 3, 0));
        SET_UP.refusesState("unit(2, 0, 1), another kind", war -> war.unit(2, 0, 1));
        SET_UP.refusesState("unit(3, 0, 1), at SEA", war -> war.unit(3, 0, 1));
    }

    private static void unitThatCannotBeThere() {
        // 0 is SEA, 1 borders it, 2 borders 1 alone, 3 nothing at all.
        Twins empty = new Twins(CHECK, "SET-UP without units", 4, () -> Scene.setUp("S L L L", "0-1 1-2", ""));
        empty.refusesState("an army at SEA", war -> war.unit(0, 0, 0));
        empty.refusesState("a fleet at LAND that borders LAND alone", war -> war.unit(2, 0, 1));
        empty.refusesState("a fleet at LAND that borders nothing", war -> war.unit(3, 0, 1));
        empty.allows("a fleet at SEA", war -> war.unit(0, 0, 1));
        empty.allows("a fleet at LAND that borders SEA", war -> war.unit(1, 0, 1));
        for (int area = 1; area < 4; area++) {
            int land = area;
            empty.allows("an army at LAND " + land, war -> war.unit(land, 0, 0));
        }
    }

    private static void unitIsNotInSetUp() {
        PHASES.in(Phases.ORDERS).refusesState("unit(4, 0, 0)", war -> war.unit(4, 0, 0));
        PHASES.in(Phases.RETREATS).refusesState("unit(4, 0, 0)", war -> war.unit(4, 0, 0));
        PHASES.in(Phases.RETREATS).refusesState("unit(0, 3, 0)", war -> war.unit(0, 3, 0));
        PHASES.in(Phases.BUILDS).refusesState("unit(4, 2, 0)", war -> war.unit(4, 2, 0));
        PHASES.in(Phases.BUILDS).refusesState("unit(2, 0, 1)", war -> war.unit(2, 0, 1));
    }

    private static void startIsNotInSetUp() {
        for (Twins twins : PHASES.beside(Phases.SET_UP)) {
            twins.refusesState("start()", SheetWar::start);
        }
        SheetWar none = new SheetWar();
        none.start();
        CHECK.refusesState("start() again without areas", none::start);
        CHECK.due("turn() behind it", none.turn(), 1);
    }
}
