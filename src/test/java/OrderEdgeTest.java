/** The edges of promises 6 and 7: each refusal of order and resolve, one reason at a time. */
public final class OrderEdgeTest {
    private static final int MIN = Integer.MIN_VALUE;
    private static final int MAX = Integer.MAX_VALUE;
    private static final int HOLD = 0;
    private static final int MOVE = 1;
    private static final int SUPPORT = 2;
    private static final int CONVOY = 3;
    private static final Check CHECK = new Check("OrderEdgeTest");
    private static final Phases PHASES = new Phases(CHECK);

    // 0, 1, 2, 5 are LAND, 3 and 4 SEA; 2 is inland, 5 touches nothing but 4.
    private static final String AREAS = "L L L S S L";
    private static final String BORDERS = "0-1 1-2 0-3 1-3 3-4 4-5";
    private static final int SIZE = 6;
    private static final int[] BESIDE = {-1, SIZE, 11, 12, 32, MIN, MAX};

    // An army at the coast, one inland, a fleet at the coast and one at SEA; each has an order already.
    private static final Twins WAR = twins("0:A0 1:F1 2:A2 3:F3", "0-2, 1 s 0-3, 2-1, 3 c 0-2");

    public static void main(String[] args) {
        noSuchPlayer();
        noSuchArea();
        noSuchKind();
        xIsNoArea();
        yIsNoArea();
        onlyWhatItHasIsLookedAt();
        playerHasNoUnitThere();
        armyCannotMove();
        fleetCannotMove();
        canMove();
        supportOfOrToItself();
        supportWhereItCannotGo();
        supportOfNobody();
        canSupport();
        convoyByOthers();
        convoyOfOthers();
        convoyToOtherPlaces();
        canConvoy();
        orderIsNotInOrders();
        resolveIsNotInOrders();
        CHECK.end();
    }

    private static Twins twins(String units, String orders) {
        return new Twins(CHECK, units, SIZE, () -> new Scene(CHECK, units, AREAS, BORDERS, units).orders(orders).war);
    }

    /** The unit's own player gives the order, so that nothing but the order is wrong. */
    private static void cannot(Twins twins, int area, int kind, int x, int y) {
        twins.answers(written(area, kind, x, y), 2, war -> war.order(war.at(area) / 2, area, kind, x, y));
    }

    private static void can(Twins twins, int area, int kind, int x, int y) {
        String call = written(area, kind, x, y);
        twins.allows(call, war -> CHECK.due(call, war.order(war.at(area) / 2, area, kind, x, y), 0));
    }

    private static String written(int area, int kind, int x, int y) {
        return "order(.., " + area + ", " + kind + ", " + x + ", " + y + ")";
    }

    private static void noSuchPlayer() {
        for (int player : new int[] {-1, 4, MIN, MAX}) {
            for (int area = 0; area < SIZE; area++) {
                int where = area;
                WAR.refusesArgument("player " + player, war -> war.order(player, where, HOLD, 0, 0));
            }
        }
    }

    private static void noSuchArea() {
        for (int area : BESIDE) {
            WAR.refusesArgument("area " + area, war -> war.order(0, area, HOLD, 0, 0));
            WAR.refusesArgument("a MOVE from " + area, war -> war.order(0, area, MOVE, 1, 0));
        }
    }

    private static void noSuchKind() {
        for (int kind : new int[] {-1, 4, MIN, MAX}) {
            WAR.refusesArgument("kind " + kind, war -> war.order(0, 0, kind, 1, 1));
        }
    }

    private static void xIsNoArea() {
        for (int x : BESIDE) {
            WAR.refusesArgument("a MOVE to " + x, war -> war.order(0, 0, MOVE, x, 1));
            WAR.refusesArgument("a SUPPORT of " + x, war -> war.order(0, 0, SUPPORT, x, 1));
            WAR.refusesArgument("a CONVOY of " + x, war -> war.order(3, 3, CONVOY, x, 1));
        }
    }

    private static void yIsNoArea() {
        for (int y : BESIDE) {
            WAR.refusesArgument("a SUPPORT to " + y, war -> war.order(0, 0, SUPPORT, 2, y));
            WAR.refusesArgument("a CONVOY to " + y, war -> war.order(3, 3, CONVOY, 0, y));
        }
    }

    private static void onlyWhatItHasIsLookedAt() {
        for (int beside : BESIDE) {
            SheetWar war = new Scene(CHECK, "beside", AREAS, BORDERS, "0:A0").war;
            CHECK.due("a MOVE with y " + beside, war.order(0, 0, MOVE, 1, beside), 0);
            CHECK.due("its x", war.told(0, 1), 1);
            CHECK.due("its y", war.told(0, 2), 0);
            CHECK.due("a HOLD with x and y " + beside, war.order(0, 0, HOLD, beside, beside), 0);
            CHECK.due("the HOLD", war.told(0, 0), HOLD);
            CHECK.due("its x", war.told(0, 1), 0);
            CHECK.due("its y", war.told(0, 2), 0);
        }
    }

    private static void playerHasNoUnitThere() {
        for (int area = 0; area < SIZE; area++) {
            for (int player = 0; player < 4; player++) {
                int where = area;
                int who = player;
                // At 0 to 3 the unit is that of the player with this number.
                if (player != area) {
                    WAR.answers("player " + who + " at " + where, 1, war -> war.order(who, where, HOLD, 0, 0));
                }
            }
        }
        WAR.answers("a MOVE that its own player may order", 1, war -> war.order(1, 0, MOVE, 1, 0));
        WAR.answers("a CONVOY that its own player may order", 1, war -> war.order(0, 3, CONVOY, 0, 1));
        Twins left = new Twins(CHECK, "a unit that left", 2, () -> {
            SheetWar war = new Scene(CHECK, "left", "L L", "0-1", "0:A0").orders("0-1").war;
            CHECK.due("resolve()", war.resolve(), 1);
            CHECK.due("an order where it is now", war.order(0, 1, MOVE, 0, 0), 0);
            return war;
        });
        left.answers("an order where it was", 1, war -> war.order(0, 0, HOLD, 0, 0));
    }

    private static void armyCannotMove() {
        cannot(WAR, 0, MOVE, 0, 0);
        cannot(WAR, 0, MOVE, 3, 0);
        cannot(WAR, 0, MOVE, 4, 0);
        cannot(WAR, 2, MOVE, 2, 0);
        cannot(WAR, 2, MOVE, 3, 0);
    }

    private static void fleetCannotMove() {
        cannot(WAR, 1, MOVE, 0, 0);
        cannot(WAR, 1, MOVE, 2, 0);
        cannot(WAR, 1, MOVE, 5, 0);
        cannot(WAR, 1, MOVE, 1, 0);
        cannot(WAR, 1, MOVE, 4, 0);
        cannot(WAR, 3, MOVE, 3, 0);
        cannot(WAR, 3, MOVE, 2, 0);
        cannot(WAR, 3, MOVE, 5, 0);
    }

    private static void canMove() {
        can(WAR, 0, MOVE, 1, 0);
        can(WAR, 0, MOVE, 5, 0);
        can(WAR, 2, MOVE, 0, 0);
        can(WAR, 2, MOVE, 5, 0);
        can(WAR, 1, MOVE, 3, 0);
        can(WAR, 3, MOVE, 0, 0);
        can(WAR, 3, MOVE, 1, 0);
        can(WAR, 3, MOVE, 4, 0);
    }

    private static void supportOfOrToItself() {
        cannot(WAR, 0, SUPPORT, 0, 1);
        cannot(WAR, 3, SUPPORT, 3, 1);
        cannot(WAR, 0, SUPPORT, 2, 0);
        cannot(WAR, 0, SUPPORT, 1, 0);
        cannot(WAR, 3, SUPPORT, 1, 3);
    }

    private static void supportWhereItCannotGo() {
        // An army: no border; by sea alone; a SEA that borders, and one that doesn't.
        cannot(WAR, 0, SUPPORT, 1, 2);
        cannot(WAR, 0, SUPPORT, 1, 5);
        cannot(WAR, 0, SUPPORT, 1, 3);
        cannot(WAR, 0, SUPPORT, 1, 4);
        // A fleet at LAND: LAND that borders; no border. One at SEA: no border.
        cannot(WAR, 1, SUPPORT, 0, 0);
        cannot(WAR, 1, SUPPORT, 2, 2);
        cannot(WAR, 1, SUPPORT, 3, 4);
        cannot(WAR, 3, SUPPORT, 2, 2);
        cannot(WAR, 3, SUPPORT, 0, 5);
    }

    private static void supportOfNobody() {
        cannot(WAR, 0, SUPPORT, 5, 1);
        cannot(WAR, 0, SUPPORT, 4, 1);
        cannot(WAR, 3, SUPPORT, 4, 4);
        cannot(twins("0:A0", "0-1"), 0, SUPPORT, 1, 1);
    }

    private static void canSupport() {
        can(WAR, 0, SUPPORT, 1, 1);
        can(WAR, 0, SUPPORT, 2, 1);
        can(WAR, 0, SUPPORT, 3, 1);
        can(WAR, 1, SUPPORT, 3, 3);
        can(WAR, 1, SUPPORT, 2, 3);
        can(WAR, 3, SUPPORT, 2, 4);
        can(WAR, 3, SUPPORT, 1, 1);
    }

    private static void convoyByOthers() {
        cannot(WAR, 0, CONVOY, 2, 1);
        cannot(WAR, 1, CONVOY, 0, 2);
        cannot(WAR, 1, CONVOY, 2, 0);
    }

    private static void convoyOfOthers() {
        // A fleet, nobody at LAND, nobody at SEA, itself.
        cannot(WAR, 3, CONVOY, 1, 2);
        cannot(WAR, 3, CONVOY, 5, 2);
        cannot(WAR, 3, CONVOY, 4, 2);
        cannot(WAR, 3, CONVOY, 3, 2);
    }

    private static void convoyToOtherPlaces() {
        cannot(WAR, 3, CONVOY, 0, 0);
        cannot(WAR, 3, CONVOY, 2, 2);
        cannot(WAR, 3, CONVOY, 0, 3);
        cannot(WAR, 3, CONVOY, 0, 4);
    }

    private static void canConvoy() {
        can(WAR, 3, CONVOY, 0, 1);
        can(WAR, 3, CONVOY, 0, 5);
        can(WAR, 3, CONVOY, 2, 0);
        can(WAR, 3, CONVOY, 2, 5);
    }

    private static void orderIsNotInOrders() {
        Twins setUp = PHASES.in(Phases.SET_UP);
        setUp.refusesState("a HOLD", war -> war.order(0, 0, HOLD, 0, 0));
        setUp.refusesState("a MOVE", war -> war.order(0, 0, MOVE, 1, 0));
        Twins retreats = PHASES.in(Phases.RETREATS);
        retreats.refusesState("a MOVE", war -> war.order(0, 1, MOVE, 0, 0));
        retreats.refusesState("a MOVE of the displaced one", war -> war.order(1, 1, MOVE, 4, 0));
        Twins builds = PHASES.in(Phases.BUILDS);
        builds.refusesState("a HOLD", war -> war.order(0, 0, HOLD, 0, 0));
        builds.refusesState("a MOVE", war -> war.order(0, 0, MOVE, 1, 0));
        builds.refusesState("an order of a unit that was removed", war -> war.order(0, 2, HOLD, 0, 0));
    }

    private static void resolveIsNotInOrders() {
        for (Twins twins : PHASES.beside(Phases.ORDERS)) {
            twins.refusesState("resolve()", SheetWar::resolve);
        }
        SheetWar none = new SheetWar();
        CHECK.refusesState("resolve() in SET-UP without areas", none::resolve);
        CHECK.due("phase() behind it", none.phase(), 0);
    }
}
