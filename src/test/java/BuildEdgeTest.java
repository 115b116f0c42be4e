import java.util.function.Supplier;

/** The edges of promises 10 and 11: each refusal of build, and how BUILDS come and end, one reason at a time. */
public final class BuildEdgeTest {
    private static final int NONE = SheetWar.NONE;
    private static final int MIN = Integer.MIN_VALUE;
    private static final int MAX = Integer.MAX_VALUE;
    private static final int ARMY = 0;
    private static final int FLEET = 1;
    private static final int REMOVE = 2;
    private static final Check CHECK = new Check("BuildEdgeTest");
    private static final Phases PHASES = new Phases(CHECK);

    public static void main(String[] args) {
        noSuchPlayer();
        noSuchArea();
        noSuchKind();
        buildIsNotInBuilds();
        asManyMayDoNothing();
        moreMayNotBuild();
        fewerMayNotRemove();
        asManyAsAreMissing();
        asManyAsAreTooMany();
        notWhereAUnitIs();
        notWhereNoHomeIs();
        notWhereAnotherCenterIs();
        notAFleetInland();
        notAnotherOnesUnit();
        buildsCome();
        buildsDoNotCome();
        restIsGone();
        phaseBehindFinish();
        CHECK.end();
    }

    /** Turns 1 and 2 pass without any order. */
    private static Scene afterTwo(String areas, String borders, String units) {
        Scene scene = new Scene(CHECK, areas + " with " + units, areas, borders, units);
        scene.war.resolve();
        scene.war.resolve();
        return scene;
    }

    private static Twins twins(String title, int size, Supplier<Scene> maker) {
        return new Twins(CHECK, title, size, () -> maker.get().war);
    }

    private static void answers(Twins twins, int player, int area, int kind, int due) {
        twins.answers(written(player, area, kind), due, war -> war.build(player, area, kind));
    }

    private static void can(Twins twins, int player, int area, int kind) {
        String call = written(player, area, kind);
        twins.allows(call, war -> CHECK.due(call, war.build(player, area, kind), 0));
    }

    private static String written(int player, int area, int kind) {
        return "build(" + player + ", " + area + ", " + kind + ")";
    }

    private static void noSuchPlayer() {
        Twins builds = PHASES.in(Phases.BUILDS);
        for (int player : new int[] {-1, 4, MIN, MAX}) {
            builds.refusesArgument("player " + player + " builds", war -> war.build(player, 4, ARMY));
            builds.refusesArgument("player " + player + " removes", war -> war.build(player, 1, REMOVE));
        }
    }

    private static void noSuchArea() {
        Twins builds = PHASES.in(Phases.BUILDS);
        for (int area : new int[] {-1, Phases.SIZE, 11, 12, 32 + 4, MIN, MAX}) {
            builds.refusesArgument("a unit built at " + area, war -> war.build(2, area, ARMY));
            builds.refusesArgument("a unit removed at " + area, war -> war.build(1, area, REMOVE));
        }
    }

    private static void noSuchKind() {
        for (int kind : new int[] {-1, 3, MIN, MAX}) {
            PHASES.in(Phases.BUILDS).refusesArgument("kind " + kind, war -> war.build(2, 4, kind));
        }
    }

    private static void buildIsNotInBuilds() {
        for (Twins twins : PHASES.beside(Phases.BUILDS)) {
            twins.refusesState("build(2, 4, 0)", war -> war.build(2, 4, ARMY));
            twins.refusesState("build(0, 2, 2)", war -> war.build(0, 2, REMOVE));
        }
    }

    private static void asManyMayDoNothing() {
        // Player 0 has as many, away from home; player 3 has nothing; BUILDS come for player 1, who has built at 3.
        Twins war = twins("as many", 5, () -> afterTwo("H0 L L H1 H1", "0-1 1-2", "1:A0").build(1, 3, ARMY, 0));
        answers(war, 0, 0, ARMY, 1);
        answers(war, 0, 1, REMOVE, 1);
        answers(war, 3, 0, ARMY, 1);
        answers(war, 3, 1, REMOVE, 1);
        can(war, 1, 4, ARMY);
    }

    private static void moreMayNotBuild() {
        Twins war = twins("more", 5, () -> afterTwo("H0 L L L L", "", "1:A0 2:A0 3:A0 4:A0").build(0, 3, REMOVE, 0));
        answers(war, 0, 0, ARMY, 1);
        can(war, 0, 1, REMOVE);
    }

    private static void fewerMayNotRemove() {
        Twins war = twins("fewer", 4, () -> afterTwo("H0 H0 H0 L", "", "3:A0").build(0, 2, ARMY, 0));
        answers(war, 0, 3, REMOVE, 1);
        answers(war, 0, 2, REMOVE, 1);
        can(war, 0, 1, ARMY);
    }

    private static void asManyAsAreMissing() {
        // Two are missing, and there are three places; at last the unit that was built isn't too many, either.
        Twins one = twins("one of two", 4, () -> afterTwo("H0 H0 H0 L", "", "3:A0").build(0, 2, ARMY, 0));
        can(one, 0, 0, ARMY);
        can(one, 0, 1, ARMY);
        Twins both = twins("two of two", 4, () -> afterTwo("H0 H0 H0 L", "", "3:A0").build(0, 2, ARMY, 0)
                .build(0, 0, ARMY, 0));
        answers(both, 0, 1, ARMY, 1);
        answers(both, 0, 2, REMOVE, 1);
    }

    private static void asManyAsAreTooMany() {
        String units = "1:A0 2:A0 3:A0";
        Twins one = twins("one of two", 4, () -> afterTwo("H0 L L L", "", units).build(0, 3, REMOVE, 0));
        can(one, 0, 1, REMOVE);
        can(one, 0, 2, REMOVE);
        Twins both = twins("two of two", 4, () -> afterTwo("H0 L L L", "", units).build(0, 3, REMOVE, 0)
                .build(0, 1, REMOVE, 0));
        answers(both, 0, 2, REMOVE, 1);
        answers(both, 0, 0, ARMY, 1);
    }

    private static void notWhereAUnitIs() {
        // Its own: one that was there, and one that was built.
        Twins war = twins("a unit", 4, () -> afterTwo("H0 H0 H0 S", "0-3 1-3 2-3", "0:A0").build(0, 1, FLEET, 0));
        answers(war, 0, 0, ARMY, 2);
        answers(war, 0, 0, FLEET, 2);
        answers(war, 0, 1, ARMY, 2);
        answers(war, 0, 1, FLEET, 2);
        can(war, 0, 2, ARMY);
        can(war, 0, 2, FLEET);
    }

    private static void notWhereNoHomeIs() {
        // LAND, SEA, a center that is nobody's, another one's home.
        Twins war = twins("no home", 7, () -> afterTwo("H0 H0 H0 L S C H1", "0-4 3-4 5-4 6-4", "")
                .build(0, 1, ARMY, 0));
        for (int area = 3; area <= 6; area++) {
            answers(war, 0, area, FLEET, 2);
            answers(war, 0, area, ARMY, 2);
        }
        can(war, 0, 0, ARMY);
        can(war, 0, 0, FLEET);
    }

    /** 1 is player 0's, but nobody's home; 2 is theirs, but player 1's home; 3 is their home, but player 1's. */
    private static Scene afterFour() {
        Scene scene = afterTwo("H0 C H1 H0 L L L H0", Scene.allOf(8), "1:A0 2:A0 3:A1").finish(1);
        scene.orders("1-4, 2-5, 3-6").settles(3, 0, 1, 1, 1, 0, 0, 0, 0).settles(0, 0, 0, 0, 0, 1, 1, 1, 0);
        scene.isIn(3, 4).owners(0, 0, 0, 1, NONE, NONE, NONE, 0).stands("4:A0 5:A0 6:A1");
        return scene.build(0, 7, ARMY, 0);
    }

    private static void notWhereAnotherCenterIs() {
        Twins war = twins("other centers", 8, BuildEdgeTest::afterFour);
        answers(war, 0, 1, ARMY, 2);
        answers(war, 0, 2, ARMY, 2);
        answers(war, 0, 3, ARMY, 2);
        can(war, 0, 0, ARMY);
    }

    private static void notAFleetInland() {
        // 0 borders nothing, 1 borders LAND alone, 2 borders SEA.
        Twins war = twins("inland", 6, () -> afterTwo("H0 H0 H0 L S H0", "1-3 2-4", "").build(0, 5, ARMY, 0));
        answers(war, 0, 0, FLEET, 2);
        answers(war, 0, 1, FLEET, 2);
        can(war, 0, 0, ARMY);
        can(war, 0, 1, ARMY);
        can(war, 0, 2, FLEET);
    }

    private static void notAnotherOnesUnit() {
        Twins war = twins("remove", 6, () -> afterTwo("L L L H1 L L", "", "0:A0 1:A0 2:A0 3:A1 5:A1")
                .build(0, 2, REMOVE, 0));
        answers(war, 0, 3, REMOVE, 2);
        answers(war, 0, 5, REMOVE, 2);
        answers(war, 1, 0, REMOVE, 2);
        answers(war, 0, 4, REMOVE, 2);
        answers(war, 0, 2, REMOVE, 2);
        can(war, 0, 0, REMOVE);
        can(war, 1, 3, REMOVE);
    }

    private static void buildsCome() {
        afterTwo("L", "", "0:A0").isIn(3, 2).counts(0, 0, 1);
        afterTwo("L", "", "0:A3").isIn(3, 2).counts(3, 0, 1);
        afterTwo("H0 L", "", "0:A0 1:A0").isIn(3, 2).counts(0, 1, 2);
        afterTwo("H0", "", "").isIn(3, 2).counts(0, 1, 0);
        afterTwo("H3", "", "").isIn(3, 2).counts(3, 1, 0);
        afterTwo("H0 H0", "", "0:A0").isIn(3, 2).counts(0, 2, 1);
        // A center is won, and so one more unit may be built at home.
        afterTwo("H0 C", "", "1:A0").isIn(3, 2).owners(0, 0).counts(0, 2, 1);
        afterTwo("H0 C S", "1-2", "1:F0").isIn(3, 2).owners(0, 0, NONE).counts(0, 2, 1);
    }

    private static void buildsDoNotCome() {
        afterTwo("", "", "").isIn(1, 3);
        afterTwo("L C", "", "").isIn(1, 3).owners(NONE, NONE);
        afterTwo("H0", "", "0:A0").isIn(1, 3).counts(0, 1, 1);
        afterTwo("H0 L", "", "1:A0").isIn(1, 3).counts(0, 1, 1);
        // LAND that is no center, and SEA, never become anybody's.
        afterTwo("H0 S", "", "1:F0").isIn(1, 3).owners(0, NONE);
        // A home that another one has taken.
        afterTwo("H0", "", "0:A1").isIn(1, 3).owners(1).counts(0, 0, 0);
        // Fewer, but the home center has a unit of one's own.
        Scene full = new Scene(CHECK, "full", "H0 C", "0-1", "0:A0").orders("0-1").settles(1, 1, 0);
        full.settles(0, 0, 1).isIn(3, 2).finish(1).orders("1-0").settles(1, 0, 1).settles(0, 1, 0);
        full.isIn(1, 5).owners(0, 0).counts(0, 2, 1);
        // Fewer, and no home at all.
        Scene none = new Scene(CHECK, "none", "C C", "0-1", "0:A0").settles(0, 1, 0).settles(0, 1, 0).isIn(1, 3);
        none.orders("0-1").settles(1, 1, 0).settles(0, 0, 1).isIn(1, 5).owners(0, 0).counts(0, 2, 1);
    }

    private static void restIsGone() {
        afterTwo("H0 L L L", "", "0:A0 1:A0 2:A0 3:A0").finish(1).stands("0:A0").counts(0, 1, 1);
        afterTwo("L L L H0", "", "0:A0 1:A0 2:A0 3:A0").finish(1).stands("0:A0").owners(NONE, NONE, NONE, 0);
        afterTwo("L L L H0", "", "0:A0 1:A0 2:A0 3:A0").build(0, 0, REMOVE, 0).finish(1).stands("1:A0");
        afterTwo("L L", "", "0:A0 1:A0").finish(1).stands("").counts(0, 0, 0);
        // As many as are too many, and no more; those of others stay.
        afterTwo("H0 H1 L L", "", "0:A0 1:A1 2:A1 3:A0").finish(1).stands("0:A0 1:A1");
        afterTwo("H0 H0 L L H1", "", "0:A0 2:A0 3:A0 4:A1").finish(1).stands("0:A0 2:A0 4:A1");
        // Those that are missing aren't built by themselves.
        afterTwo("H0 H0 L", "", "2:A0").finish(1).stands("2:A0").counts(0, 2, 1);
    }

    private static void phaseBehindFinish() {
        Scene scene = afterTwo("H0 L", "0-1", "").isIn(3, 2).finish(1).isIn(1, 3);
        scene.settles(0, 0, 0).isIn(1, 4).settles(0, 0, 0).isIn(3, 4).build(0, 0, ARMY, 0).finish(1).isIn(1, 5);
        scene.told(0, 0, 0, 0).orders("0-1").settles(1, 1, 0).settles(0, 0, 1).isIn(1, 7);
        CHECK.refusesState("finish() where no BUILDS came", scene.war::finish);
    }
}
