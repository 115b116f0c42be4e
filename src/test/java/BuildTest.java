/** Promises 10, 11, 18 and 19: build, finish, owner and count. */
public final class BuildTest {
    private static final int NONE = SheetWar.NONE;
    private static final Check CHECK = new Check("BuildTest");

    public static void main(String[] args) {
        Scene.inAllWays(BuildTest::centersAndBuilds);
        surplusGoes();
        surplusOfSeveral();
        arguments();
        states();
        counts();
        CHECK.end();
    }

    private static void centersAndBuilds() {
        centersChange();
        oddTurns();
        nothingToBuild();
        noPlaceToBuild();
        builds();
        whereToBuild();
        removals();
    }

    /** Turns 1 and 2 pass without any order. */
    private static Scene afterTwo(String title, String areas, String borders, String units) {
        Scene scene = new Scene(CHECK, title, areas, borders, units);
        scene.war.resolve();
        CHECK.due(title + ": turn 2", scene.war.turn(), 2);
        scene.war.resolve();
        return scene;
    }

    private static void centersChange() {
        Scene scene = new Scene(CHECK, "centers change", "H0 C L H1 H2", Scene.allOf(5), "0:A0 1:A1 2:A0 3:A2");
        scene.owners(0, NONE, NONE, 1, 2).settles(0, 1, 1, 1, 1, 0).isIn(1, 2).owners(0, NONE, NONE, 1, 2);
        scene.settles(0, 1, 1, 1, 1, 0).isIn(3, 2).owners(0, 1, NONE, 2, 2);
        scene.counts(0, 1, 2).counts(1, 1, 1).counts(2, 2, 1).counts(3, 0, 0);
    }

    private static void oddTurns() {
        Scene scene = new Scene(CHECK, "odd turns", "H0 C L", Scene.allOf(3), "0:A0");
        scene.orders("0-1").settles(1, 1, 0, 0).isIn(1, 2).owners(0, NONE, NONE);
        scene.orders("1-2").settles(1, 0, 1, 0).isIn(1, 3).owners(0, NONE, NONE);
        scene.orders("2-1").settles(1, 0, 0, 1).isIn(1, 4).owners(0, NONE, NONE);
        scene.settles(0, 0, 1, 0).isIn(3, 4).owners(0, 0, NONE).counts(0, 2, 1);
        scene.build(0, 0, 0, 0).finish(1).isIn(1, 5).stands("0:A0 1:A0");
        scene.settles(0, 1, 1, 0).isIn(1, 6).settles(0, 1, 1, 0).isIn(1, 7);
    }

    private static void nothingToBuild() {
        afterTwo("as many as centers", "H0 H1", "0-1", "0:A0 1:A1").isIn(1, 3).owners(0, 1);
        afterTwo("neither", "L C", "0-1", "").isIn(1, 3).owners(NONE, NONE);
        afterTwo("a center is kept from afar", "H0 L", "0-1", "1:A0").isIn(1, 3).owners(0, NONE);
    }

    private static void noPlaceToBuild() {
        // With another one's home and with nobody's, one has fewer units than centers, but no home.
        Scene other = new Scene(CHECK, "another one's home", "H1 C L", Scene.allOf(3), "0:A0");
        other.settles(0, 1, 0, 0).settles(0, 1, 0, 0).isIn(1, 3).owners(0, NONE, NONE);
        other.orders("0-1").settles(1, 1, 0, 0).settles(0, 0, 1, 0).isIn(1, 5).owners(0, 0, NONE).counts(0, 2, 1);
        Scene fewer = new Scene(CHECK, "fewer, and no home", "C C L", Scene.allOf(3), "0:A0");
        fewer.settles(0, 1, 0, 0).settles(0, 1, 0, 0).isIn(1, 3).owners(0, NONE, NONE);
        fewer.orders("0-1").settles(1, 1, 0, 0).settles(0, 0, 1, 0).isIn(1, 5).owners(0, 0, NONE).counts(0, 2, 1);
        Scene full = new Scene(CHECK, "the home is full", "H0 C L", Scene.allOf(3), "0:A0");
        full.orders("0-1").settles(1, 1, 0, 0).settles(0, 0, 1, 0).isIn(3, 2).finish(1);
        full.orders("1-0").settles(1, 0, 1, 0).settles(0, 1, 0, 0).isIn(1, 5).counts(0, 2, 1);
        // The home of 0 is taken by 1, and stands for 1's second unit.
        Scene taken = new Scene(CHECK, "a home that is another's", "H0 C H1", Scene.allOf(3), "1:A0 0:A1 2:A1");
        taken.settles(0, 1, 1, 1).settles(0, 1, 1, 1).isIn(1, 3).owners(1, 0, 1);
        // Two players' homes stand empty, but the units are as many as centers.
        afterTwo("empty homes alone", "H0 H1 L L", Scene.allOf(4), "2:A0 3:A1").isIn(1, 3);
    }

    private static void builds() {
        Scene scene = afterTwo("builds", "H0 H0 H0 S H1 L", "0-3 1-2 4-3 2-4", "5:A0 4:A1");
        scene.isIn(3, 2).counts(0, 3, 1).counts(1, 1, 1);
        scene.build(0, 0, 1, 0).stands("0:F0 4:A1 5:A0").counts(0, 3, 2);
        scene.build(0, 0, 0, 2).build(0, 1, 1, 2).build(0, 1, 0, 0).stands("0:F0 1:A0 4:A1 5:A0").counts(0, 3, 3);
        // As many as were missing: no more, and none to remove.
        scene.build(0, 2, 0, 1).build(0, 0, 2, 1).build(1, 4, 0, 1).build(1, 4, 2, 1);
        scene.finish(1).isIn(1, 3).stands("0:F0 1:A0 4:A1 5:A0").told(0, 0, 0, 0).told(1, 0, 0, 0);
        scene.orders("0-3, 1-2").settles(2, 1, 1, 0, 0, 1, 1);
    }

    private static void whereToBuild() {
        Scene scene = new Scene(CHECK, "where to build", "H0 H0 C H1 L S H0 H2", Scene.allOf(8), "1:A0 3:A0 6:A1");
        scene.settles(0, 0, 1, 0, 1, 0, 0, 1, 0).settles(0, 0, 1, 0, 1, 0, 0, 1, 0);
        scene.isIn(3, 2).owners(0, 0, NONE, 0, NONE, NONE, 1, 2).counts(0, 3, 2).counts(1, 1, 1).counts(2, 1, 0);
        // A unit there; nobody's; another's home that is one's own; no center; SEA; one's home that is another's.
        scene.build(0, 1, 0, 2).build(0, 2, 0, 2).build(0, 3, 0, 2).build(0, 4, 0, 2).build(0, 5, 1, 2)
                .build(0, 5, 0, 2).build(0, 6, 0, 2).build(0, 7, 0, 2);
        scene.build(2, 0, 0, 2).build(1, 3, 0, 1).build(3, 0, 0, 1);
        scene.build(0, 0, 1, 0).build(2, 7, 0, 0).stands("0:F0 1:A0 3:A0 6:A1 7:A2");
        scene.finish(1).stands("0:F0 1:A0 3:A0 6:A1 7:A2");
        // What may be built need not be; and an empty home that another one took isn't a place.
        Scene lazy = afterTwo("not at all", "H0 L", "0-1", "").isIn(3, 2).finish(1).isIn(1, 3).stands("");
        lazy.settles(0, 0, 0).settles(0, 0, 0).isIn(3, 4).build(0, 0, 0, 0).finish(1).stands("0:A0");
        Scene lost = new Scene(CHECK, "a lost home", "H0 L H0 H0", Scene.allOf(4), "0:A1 2:A0");
        lost.settles(0, 1, 0, 1, 0).settles(0, 1, 0, 1, 0).isIn(3, 2).finish(1);
        lost.orders("0-1").settles(1, 1, 0, 1, 0).settles(0, 0, 1, 1, 0).isIn(3, 4).owners(1, NONE, 0, 0);
        lost.build(0, 0, 0, 2).build(1, 0, 0, 1).build(0, 3, 0, 0);
    }

    private static void removals() {
        Scene scene = afterTwo("removals", "H0 L L S L", "0-3 1-2", "0:A0 1:A0 2:A1 3:F0 4:A0").isIn(3, 2);
        scene.counts(0, 1, 4).counts(1, 0, 1);
        // Not another's, not where nobody is, and nothing to be built.
        scene.build(0, 2, 2, 2).build(1, 0, 2, 2).build(0, 0, 0, 1).build(1, 1, 0, 1).build(2, 2, 2, 1);
        scene.build(0, 0, 2, 0).stands("1:A0 2:A1 3:F0 4:A0").build(0, 0, 2, 2).build(0, 1, 2, 0).build(0, 3, 2, 0);
        scene.counts(0, 1, 1).build(0, 4, 2, 1).build(0, 0, 0, 1).stands("2:A1 4:A0");
        scene.build(1, 2, 2, 0).stands("4:A0").build(1, 2, 2, 1).finish(1).isIn(1, 3).stands("4:A0").owners(0, NONE,
                NONE, NONE, NONE);
    }

    private static void surplusGoes() {
        Scene scene = afterTwo("surplus", "H0 L L S L", "0-3 1-2", "0:A0 1:A0 2:A0 3:F0 4:A0").isIn(3, 2);
        scene.build(0, 1, 2, 0).finish(1).isIn(1, 3).stands("0:A0").counts(0, 1, 1);
        afterTwo("the greatest areas first", "L L C L L", "", "0:A0 1:A0 2:A1 3:A0 4:A0").isIn(3, 2).finish(1)
                .stands("2:A1");
        afterTwo("the least ones stay", "H0 H0 C H0 L L", "", "4:A0 1:A0 2:A1 3:A0 5:A0").isIn(3, 2)
                .counts(0, 3, 4).finish(1).stands("1:A0 2:A1 3:A0 4:A0");
    }

    private static void surplusOfSeveral() {
        afterTwo("two players", "H0 L H1 L L L", "", "1:A0 3:A1 4:A0 5:A1").isIn(3, 2).finish(1)
                .stands("1:A0 3:A1").counts(0, 1, 1).counts(1, 1, 1);
        // One has too many, another one too few.
        afterTwo("more and fewer", "H0 H1 L L", "", "2:A0 3:A0").isIn(3, 2).build(1, 1, 0, 0).finish(1)
                .stands("1:A1 2:A0");
        afterTwo("the last player", "L L", "", "0:A3").isIn(3, 2).finish(1).stands("");
    }

    private static void arguments() {
        SheetWar war = afterTwo("arguments", "H0 L", "0-1", "").war;
        CHECK.refusesArgument("player -1", () -> war.build(-1, 0, 0));
        CHECK.refusesArgument("player 4", () -> war.build(4, 0, 0));
        CHECK.refusesArgument("area -1", () -> war.build(0, -1, 0));
        CHECK.refusesArgument("area 2", () -> war.build(0, 2, 0));
        CHECK.refusesArgument("kind -1", () -> war.build(0, 0, -1));
        CHECK.refusesArgument("kind 3", () -> war.build(0, 0, 3));
        CHECK.due("nothing was built", war.at(0), NONE);
        CHECK.due("build()", war.build(0, 0, 0), 0);
    }

    private static void states() {
        SheetWar early = new SheetWar();
        early.area(0, true, 0);
        CHECK.refusesState("build() in SET-UP", () -> early.build(0, 0, 0));
        early.start();
        CHECK.refusesState("build() in ORDERS", () -> early.build(0, 0, 0));
        Scene scene = new Scene(CHECK, "states", "H3 L L L", Scene.allOf(4), "1:A0 2:A1 3:A0");
        scene.orders("1-2, 3 s 1-2").settles(1, 0, 1, 4, 1).isIn(2, 1);
        CHECK.refusesState("build() in RETREATS", () -> scene.war.build(3, 0, 0));
        scene.finish(1).settles(0, 0, 0, 1, 1).isIn(3, 2).build(3, 0, 0, 0).finish(1);
        CHECK.refusesState("build() behind BUILDS", () -> scene.war.build(0, 0, 0));
        CHECK.refusesState("finish() behind BUILDS", scene.war::finish);
    }

    private static void counts() {
        Scene scene = new Scene(CHECK, "counts", "H0 H0 H3 C S", Scene.allOf(5), "0:A0 2:A0 3:A3 4:F0");
        scene.counts(0, 2, 3).counts(3, 1, 1).counts(1, 0, 0);
        for (int player : new int[] {-1, 4, Integer.MIN_VALUE, Integer.MAX_VALUE}) {
            scene.counts(player, 0, 0);
        }
        for (int what : new int[] {-1, 2, Integer.MIN_VALUE, Integer.MAX_VALUE}) {
            CHECK.due("count(0, " + what + ")", scene.war.count(0, what), 0);
        }
        for (int area : new int[] {-1, 5, 12, Integer.MIN_VALUE, Integer.MAX_VALUE}) {
            CHECK.due("owner(" + area + ")", scene.war.owner(area), NONE);
        }
        scene.settles(0, 1, 0, 1, 1, 1).settles(0, 1, 0, 1, 1, 1).owners(0, 0, 0, 3, NONE).counts(0, 3, 3)
                .counts(3, 1, 1).isIn(1, 3);
    }
}
