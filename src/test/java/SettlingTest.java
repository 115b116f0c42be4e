/** Promises 7 and 8: resolve and result, with all that the document's Terms say of strengths and of settling. */
public final class SettlingTest {
    private static final Check CHECK = new Check("SettlingTest");

    public static void main(String[] args) {
        Scene.inAllWays(SettlingTest::movesAndSupports);
        Scene.inAllWays(SettlingTest::convoysAndLeftovers);
        Scene.inAllWays(SettlingTest::nothingOfAnEarlierTurn);
        leftoversSettleOthers();
        ringsAndParadoxes();
        results();
        states();
        CHECK.end();
    }

    private static void movesAndSupports() {
        moves();
        supportedMoves();
        supportsForStaying();
        voidSupports();
        cutSupports();
        supportsAndPathsThatAreOpenAtFirst();
        supportsThatAreNotCut();
        supportsFromFarther();
        ownUnits();
        supportsAgainstTheirOwnPlayer();
        headOn();
        headOnAndOthers();
        followers();
        preventing();
        rings();
        theFirstArea();
        severalUnitsOfOnePlayer();
    }

    private static void convoysAndLeftovers() {
        fleets();
        convoys();
        brokenConvoys();
        convoyedAttacks();
        swapsBySea();
        movesWithoutPath();
        paradox();
        paradoxOfAnOpenMove();
        seaMovesFailBeforeTheLeast();
        attackersOfBothCarriers();
    }

    /** LAND alone, all areas bordering one another. */
    private static Scene land(String title, int size, String units) {
        return new Scene(CHECK, title, "L ".repeat(size), Scene.allOf(size), units);
    }

    private static void moves() {
        land("to an empty area", 2, "0:A0").orders("0-1").settles(1, 1, 0).stands("1:A0").isIn(1, 2);
        land("nobody moves", 2, "0:A0").settles(0, 1, 0).stands("0:A0").isIn(1, 2);
        land("two to one area", 3, "0:A0 2:A1").orders("0-1, 2-1").settles(0, 2, 0, 2).stands("0:A0 2:A1");
        land("two of one player", 3, "0:A0 2:A0").orders("0-1, 2-1").settles(0, 2, 0, 2).stands("0:A0 2:A0");
        land("three to one area", 4, "0:A0 2:A1 3:A2").orders("0-1, 2-1, 3-1").settles(0, 2, 0, 2, 2);
        land("against a HOLD", 2, "0:A0 1:A1").orders("0-1").settles(0, 2, 1).stands("0:A0 1:A1").isIn(1, 2);
        land("away from one another", 4, "0:A0 1:A1").orders("0-2, 1-3").settles(2, 1, 1, 0, 0).stands("2:A0 3:A1");
    }

    private static void supportedMoves() {
        land("support beats another move", 4, "0:A0 2:A1 3:A0").orders("0-1, 3 s 0-1, 2-1")
                .settles(1, 1, 0, 2, 1).stands("1:A0 2:A1 3:A0");
        land("both supported", 5, "0:A0 2:A1 3:A0 4:A1").orders("0-1, 3 s 0-1, 2-1, 4 s 2-1")
                .settles(0, 2, 0, 2, 1, 1);
        land("two supports against one", 6, "0:A0 2:A1 3:A0 4:A1 5:A2")
                .orders("0-1, 3 s 0-1, 5 s 0-1, 2-1, 4 s 2-1").settles(1, 1, 0, 2, 1, 1, 1);
        land("the other one's support is cut", 7, "0:A0 2:A1 3:A0 4:A1 5:A2").orders("0-1, 3 s 0-1, 2-1, 4 s 2-1, 5-4")
                .settles(1, 1, 0, 2, 1, 3, 2, 0).stands("1:A0 2:A1 3:A0 4:A1 5:A2");
        land("a HOLD is displaced", 4, "0:A0 1:A1 2:A0").orders("0-1, 2 s 0-1")
                .settles(1, 1, 4, 1, 0).stands("1:A0 2:A0").aside("1:A1").isIn(2, 1);
        land("support of another player", 4, "0:A0 1:A1 2:A2").orders("0-1, 2 s 0-1")
                .settles(1, 1, 4, 1, 0).aside("1:A1");
    }

    private static void supportsForStaying() {
        land("held with support", 4, "0:A0 1:A1 2:A0 3:A1").orders("0-1, 2 s 0-1, 3 s 1")
                .settles(0, 2, 1, 1, 1).isIn(1, 2);
        land("held too weakly", 5, "0:A0 1:A1 2:A0 3:A1 4:A2").orders("0-1, 2 s 0-1, 4 s 0-1, 3 s 1")
                .settles(1, 1, 4, 1, 1, 1);
        land("a supporter is supported", 5, "0:A0 1:A1 2:A0 3:A1 4:A1").orders("0-1, 2 s 0-1, 3 s 1, 1 s 4")
                .settles(0, 2, 3, 1, 1, 1);
        land("a HOLD of one's enemy is supported", 4, "0:A0 1:A1 2:A0 3:A0").orders("0-1, 2 s 0-1, 3 s 1")
                .settles(0, 2, 1, 1, 1);
        Scene sea = new Scene(CHECK, "a CONVOY is supported", "L L S S S", "0-2 1-2 2-3 2-4 3-4",
                "0:A0 2:F0 3:F1 4:F0");
        sea.orders("0-1, 2 c 0-1, 3-2, 4 s 2").settles(1, 1, 0, 1, 2, 1);
    }

    private static void voidSupports() {
        land("of a MOVE that isn't ordered", 4, "0:A0 1:A1 2:A0").orders("2 s 0-1").settles(0, 1, 1, 3, 0);
        land("of a MOVE to elsewhere", 4, "0:A0 1:A1 2:A0").orders("0-3, 2 s 0-1").settles(1, 1, 1, 3, 0);
        land("of staying while it moves away", 4, "0:A0 1:A1 2:A0").orders("0-3, 2 s 0").settles(1, 1, 1, 3, 0);
        land("of staying, and the move fails", 5, "0:A0 1:A1 2:A0 3:A1 4:A1")
                .orders("0-1, 2 s 0, 3-0, 4 s 3-0").settles(1, 4, 1, 3, 1, 1);
        land("of a supporter's MOVE", 4, "0:A0 1:A1 2:A0").orders("0 s 1, 2 s 0-1").settles(0, 1, 1, 3, 0);
        Scene later = land("an order that is changed later", 4, "0:A0 1:A1 2:A0");
        later.orders("0-1, 2 s 0-1, 0-3").settles(1, 1, 1, 3, 0);
    }

    private static void cutSupports() {
        land("a MOVE's support", 5, "0:A0 1:A1 2:A0 3:A1").orders("0-1, 2 s 0-1, 3-2").settles(0, 2, 1, 3, 2, 0);
        land("by a third player", 5, "0:A0 1:A1 2:A0 3:A2").orders("0-1, 2 s 0-1, 3-2").settles(0, 2, 1, 3, 2, 0);
        land("a support for staying", 5, "0:A0 1:A1 2:A0 3:A1 4:A0")
                .orders("0-1, 2 s 0-1, 3 s 1, 4-3").settles(1, 1, 4, 1, 3, 2);
        land("by a MOVE that is stopped by another", 6, "0:A0 1:A1 2:A0 3:A1 4:A0")
                .orders("0-1, 2 s 0-1, 3-2, 4 s 2").settles(0, 2, 1, 3, 2, 1, 0);
        land("by one that is displaced itself", 6, "0:A0 1:A1 2:A0 3:A1 4:A0 5:A0")
                .orders("0-1, 2 s 0-1, 3-2, 4-3, 5 s 4-3").settles(1, 2, 1, 3, 4, 1, 1);
        land("a displaced supporter", 6, "0:A0 1:A1 2:A0 3:A1").orders("0-1, 2 s 0-1, 1-2, 3 s 1-2")
                .settles(2, 1, 1, 4, 1, 0, 0).stands("1:A0 2:A1 3:A1");
    }

    /** What is open at first must not be taken for settled: the orders that it hangs on stand at greater areas. */
    private static void supportsAndPathsThatAreOpenAtFirst() {
        land("a supporter that will be displaced", 5, "0:A0 1:A1 2:A0 3:A1 4:A2")
                .orders("0 s 2-1, 2-1, 1-0, 3 s 1-0, 4-1").settles(1, 4, 1, 2, 1, 2).stands("0:A1 2:A0 3:A1 4:A2");
        land("a supporter that will be saved", 6, "0:A0 1:A1 2:A0 3:A1 4:A2 5:A0")
                .orders("0 s 2-1, 2-1, 1-0, 3 s 1-0, 4-3, 5-3").settles(1, 1, 4, 1, 3, 2, 2);
        String map = "0-4 1-2 2-4 2-3";
        new Scene(CHECK, "a carrier that will be saved", "L L S S L", map, "0:A0 1:A1 2:F1 3:F2")
                .orders("0-4, 1-4, 2 c 1-4, 3-2").settles(0, 2, 2, 1, 2, 0);
        new Scene(CHECK, "a carrier that will be displaced", "L L S S L S", map + " 5-2 5-3",
                "0:A0 1:A1 2:F1 3:F2 5:F2").orders("0-4, 1-4, 2 c 1-4, 3-2, 5 s 3-2").settles(2, 1, 2, 4, 1, 0, 1);
        new Scene(CHECK, "a carrier, and one that leaves", "L L S S L L", map + " 4-5",
                "0:A0 1:A1 2:F1 3:F2 4:A3").orders("0-4, 1-4, 2 c 1-4, 3-2, 4-5").settles(1, 2, 2, 1, 2, 1, 0);
        new Scene(CHECK, "a carrier, and a beaten one head-on", "L L L L L S S S",
                "0-1 0-2 1-2 3-0 4-5 5-0 5-6 5-7 6-7", "0:A0 1:A1 2:A0 3:A2 4:A3 5:F3 6:F2 7:F2")
                .orders("0-1, 1-0, 2 s 0-1, 3-0, 4-0, 5 c 4-0, 6-5, 7 s 6-5").settles(3, 1, 4, 1, 1, 2, 4, 1, 1);
    }

    private static void supportsThatAreNotCut() {
        land("by a unit of the same player", 4, "0:A0 1:A1 2:A0 3:A0").orders("0-1, 2 s 0-1, 3-2")
                .settles(1, 1, 4, 1, 2);
        land("from where the support goes", 4, "0:A0 1:A1 2:A0").orders("0-1, 2 s 0-1, 1-2")
                .settles(1, 1, 4, 1, 0).aside("1:A1");
        land("a support for staying, from elsewhere", 4, "0:A0 1:A1 2:A1 3:A0").orders("0-1, 2 s 1, 3-2")
                .settles(0, 2, 1, 3, 2);
        land("two MOVES to it, one of them from there", 5, "0:A0 1:A1 2:A0 3:A1").orders("0-1, 2 s 0-1, 1-2, 3-2")
                .settles(0, 2, 2, 3, 2, 0);
        land("from where it goes, supported but stopped", 5, "0:A0 1:A1 2:A0 3:A1 4:A0")
                .orders("0-1, 2 s 0-1, 1-2, 3 s 1-2, 4 s 2").settles(1, 1, 4, 1, 1, 1);
    }

    private static void supportsFromFarther() {
        // 3 doesn't border 0, but can go to 1; so it may support what goes on there.
        new Scene(CHECK, "a unit that one couldn't reach", "L L L L", "0-1 1-3 1-2", "0:A0 1:A1 3:A0")
                .orders("0-1, 3 s 0-1").settles(1, 1, 4, 0, 1);
    }

    private static void ownUnits() {
        land("one's own unit that holds", 4, "0:A0 1:A0 2:A1").orders("0-1, 2 s 0-1").settles(0, 2, 1, 1, 0);
        land("one's own unit that leaves", 4, "0:A0 1:A0").orders("0-1, 1-2").settles(2, 1, 1, 0, 0)
                .stands("1:A0 2:A0");
        land("one's own unit that fails to leave", 5, "0:A0 1:A0 2:A1 3:A1 4:A2")
                .orders("0-1, 3 s 0-1, 4 s 0-1, 1-2").settles(0, 2, 2, 1, 1, 1);
        land("one's own unit, head-on", 4, "0:A0 1:A0 2:A1 3:A2").orders("0-1, 1-0, 2 s 0-1, 3 s 0-1")
                .settles(0, 2, 2, 1, 1);
        land("it stops others all the same", 5, "0:A0 1:A0 2:A1 3:A1 4:A2")
                .orders("0-1, 4 s 0-1, 2-1, 3 s 2-1").settles(0, 2, 1, 2, 1, 1);
    }

    private static void supportsAgainstTheirOwnPlayer() {
        land("don't help to displace", 4, "0:A0 1:A1 2:A1").orders("0-1, 2 s 0-1").settles(0, 2, 1, 1, 0);
        land("but others do", 5, "0:A0 1:A1 2:A1 3:A2").orders("0-1, 2 s 0-1, 3 s 0-1").settles(1, 1, 4, 1, 1, 0);
        land("help into an empty area", 4, "0:A0 2:A1 3:A2").orders("0-1, 2 s 0-1, 3-1").settles(1, 1, 0, 1, 2);
        land("help where their unit leaves", 5, "0:A0 1:A1 2:A1 3:A2").orders("0-1, 2 s 0-1, 1-4, 3-1")
                .settles(2, 1, 1, 1, 2, 0).stands("1:A0 2:A1 3:A2 4:A1");
        land("not where their unit fails to leave", 5, "0:A0 1:A1 2:A1 3:A2").orders("0-1, 2 s 0-1, 1-3")
                .settles(0, 2, 2, 1, 1, 0);
        land("help to stop another one", 5, "0:A0 1:A1 2:A1 3:A2 4:A2").orders("0-1, 2 s 0-1, 3-1, 4 s 3-1")
                .settles(0, 2, 1, 1, 2, 1);
        land("don't help head-on", 4, "0:A0 1:A1 2:A1").orders("0-1, 1-0, 2 s 0-1").settles(0, 2, 2, 1, 0);
        land("but are to be overcome head-on", 5, "0:A0 1:A1 2:A1 3:A1").orders("0-1, 1-0, 2 s 0-1, 3 s 1-0")
                .settles(0, 2, 2, 1, 1, 0);
    }

    private static void headOn() {
        land("no swap", 3, "0:A0 1:A1").orders("0-1, 1-0").settles(0, 2, 2, 0);
        land("one is supported", 4, "0:A0 1:A1 2:A0").orders("0-1, 1-0, 2 s 0-1").settles(1, 1, 4, 1, 0)
                .stands("1:A0 2:A0").aside("1:A1");
        land("both are supported", 4, "0:A0 1:A1 2:A0 3:A1").orders("0-1, 1-0, 2 s 0-1, 3 s 1-0")
                .settles(0, 2, 2, 1, 1);
        land("the other one's support is cut", 5, "0:A0 1:A1 2:A0 3:A1 4:A0").orders("0-1, 1-0, 2 s 0-1, 3 s 1-0, 4-3")
                .settles(1, 1, 4, 1, 3, 2).stands("1:A0 2:A0 3:A1 4:A0").aside("1:A1");
        land("one's own support is cut", 5, "0:A0 1:A1 2:A0 3:A1").orders("0-1, 1-0, 2 s 0-1, 3-2")
                .settles(0, 2, 2, 3, 2, 0);
        land("against the force, not the hold", 6, "0:A0 1:A1 2:A0 3:A1 4:A1 5:A0")
                .orders("0-1, 1-0, 2 s 0-1, 5 s 0-1, 3 s 1-0").settles(1, 1, 4, 1, 1, 1, 1);
    }

    private static void headOnAndOthers() {
        land("a beaten one prevents nothing where it was beaten from", 5, "0:A0 1:A1 2:A0 3:A2")
                .orders("0-1, 1-0, 2 s 0-1, 3-0").settles(2, 1, 4, 1, 1, 0).stands("0:A2 1:A0 2:A0").aside("1:A1");
        land("an equal one prevents", 5, "0:A0 1:A1 3:A2").orders("0-1, 1-0, 3-0").settles(0, 2, 2, 0, 2, 0);
        land("a supported one prevents, though it can't go", 6, "0:A0 1:A1 2:A0 3:A2 4:A1 5:A2")
                .orders("0-1, 1-0, 2 s 0-1, 4 s 1-0, 3-0, 5 s 3-0").settles(0, 2, 2, 1, 2, 1, 1);
        land("a third one comes between", 6, "0:A0 1:A1 2:A0 3:A2 4:A2").orders("0-1, 1-0, 2 s 0-1, 3-1, 4 s 3-1")
                .settles(0, 2, 2, 1, 2, 1, 0);
        land("a third one displaces", 7, "0:A0 1:A1 3:A2 4:A2").orders("0-1, 1-0, 3-1, 4 s 3-1")
                .settles(1, 2, 4, 0, 1, 1, 0, 0).stands("0:A0 1:A2 4:A2").aside("1:A1");
    }

    private static void followers() {
        land("one behind another", 4, "0:A0 1:A1 2:A2").orders("0-1, 1-2, 2-3").settles(3, 1, 1, 1, 0)
                .stands("1:A0 2:A1 3:A2");
        land("by falling areas, too", 4, "3:A0 2:A1 1:A2").orders("3-2, 2-1, 1-0").settles(3, 0, 1, 1, 1);
        land("all stop behind the first", 5, "0:A0 1:A1 2:A2 3:A3").orders("0-1, 1-2, 2-3").settles(0, 2, 2, 2, 1, 0);
        String eleven = "0:A0 1:A1 2:A2 3:A3 4:A0 5:A1 6:A2 7:A3 8:A0 9:A1 10:A2";
        String behindOneAnother = "0-1, 1-2, 2-3, 3-4, 4-5, 5-6, 6-7, 7-8, 8-9, 9-10, 10-11";
        land("eleven", 12, eleven).orders(behindOneAnother).settles(11, 1, 1, 1, 1, 1, 1, 1, 1, 1, 1, 1, 0)
                .stands("1:A0 2:A1 3:A2 4:A3 5:A0 6:A1 7:A2 8:A3 9:A0 10:A1 11:A2");
        land("eleven stop", 12, eleven + " 11:A3").orders(behindOneAnother)
                .settles(0, 2, 2, 2, 2, 2, 2, 2, 2, 2, 2, 2, 1).stands(eleven + " 11:A3");
        land("one that fails to leave holds with 1", 5, "0:A0 1:A1 2:A2 3:A0").orders("0-1, 1-2, 3 s 0-1")
                .settles(1, 1, 4, 1, 1, 0).aside("1:A1");
        land("no support holds one that fails to leave", 6, "0:A0 1:A1 2:A2 3:A0 4:A1 5:A1")
                .orders("0-1, 1-2, 3 s 0-1, 4 s 1, 5 s 1").settles(1, 1, 4, 1, 1, 3, 3);
        land("behind one's own, with a support", 5, "0:A0 1:A0 3:A1 4:A2").orders("0-2, 1-0, 3-0, 4 s 1-0")
                .settles(2, 1, 1, 0, 2, 1).stands("0:A0 2:A0 3:A1 4:A2");
        land("behind one's own that fails, with a support", 4, "0:A0 1:A0 2:A0 3:A1").orders("0 s 1-2, 1-2, 2-3")
                .settles(0, 1, 2, 2, 1);
        land("two after one that leaves", 4, "0:A0 1:A1 2:A2").orders("0-1, 2-1, 1-3").settles(1, 2, 1, 2, 0);
    }

    private static void preventing() {
        land("a displaced one still prevents", 5, "0:A0 1:A1 2:A0 3:A2").orders("0-1, 2 s 0-1, 1-4, 3-4")
                .settles(1, 1, 4, 1, 2, 0).isIn(2, 1);
        land("a stronger one that can't go prevents", 6, "0:A0 1:A0 2:A1 3:A2").orders("0-1, 2 s 0-1, 3-1")
                .settles(0, 2, 1, 1, 2, 0, 0);
        land("besieged by equals", 6, "0:A0 1:A1 2:A0 3:A2 4:A2").orders("0-1, 2 s 0-1, 3-1, 4 s 3-1")
                .settles(0, 2, 1, 1, 2, 1, 0).isIn(1, 2);
        land("besieged by unequals", 6, "0:A0 1:A1 2:A0 3:A2 4:A2 5:A3")
                .orders("0-1, 2 s 0-1, 5 s 0-1, 3-1, 4 s 3-1").settles(1, 1, 4, 1, 2, 1, 1);
    }

    private static void rings() {
        land("three", 4, "0:A0 1:A1 2:A2").orders("0-1, 1-2, 2-0").settles(3, 1, 1, 1, 0).stands("0:A2 1:A0 2:A1");
        land("of one player", 3, "0:A0 1:A0 2:A0").orders("0-1, 1-2, 2-0").settles(3, 1, 1, 1);
        land("four", 4, "0:A0 1:A1 2:A2 3:A3").orders("0-2, 2-1, 1-3, 3-0").settles(4, 1, 1, 1, 1)
                .stands("0:A3 1:A2 2:A0 3:A1");
        land("two rings", 6, "0:A0 1:A1 2:A2 3:A0 4:A1 5:A2").orders("0-1, 1-2, 2-0, 3-5, 5-4, 4-3")
                .settles(6, 1, 1, 1, 1, 1, 1);
        land("twelve", 12, "0:A0 1:A1 2:A2 3:A3 4:A0 5:A1 6:A2 7:A3 8:A0 9:A1 10:A2 11:A3")
                .orders("0-1, 1-2, 2-3, 3-4, 4-5, 5-6, 6-7, 7-8, 8-9, 9-10, 10-11, 11-0")
                .settles(12, 1, 1, 1, 1, 1, 1, 1, 1, 1, 1, 1, 1)
                .stands("0:A3 1:A0 2:A1 3:A2 4:A3 5:A0 6:A1 7:A2 8:A3 9:A0 10:A1 11:A2");
        land("stopped from outside", 5, "0:A0 1:A1 2:A2 3:A3").orders("0-1, 1-2, 2-0, 3-1").settles(0, 2, 2, 2, 2, 0);
        land("supported against outside", 5, "0:A0 1:A1 2:A2 3:A3 4:A0").orders("0-1, 1-2, 2-0, 3-1, 4 s 0-1")
                .settles(3, 1, 1, 1, 2, 1);
        land("broken from outside", 5, "0:A0 1:A1 2:A2 3:A3 4:A3").orders("0-1, 1-2, 2-0, 3-1, 4 s 3-1")
                .settles(1, 2, 4, 2, 1, 1).aside("1:A1");
        land("one runs behind a ring", 4, "0:A0 1:A1 2:A2 3:A3").orders("1-2, 2-3, 3-1, 0-1").settles(0, 2, 2, 2, 2);
    }

    private static void fleets() {
        new Scene(CHECK, "fleets", "L S S L", "0-1 1-2 2-3 0-3 0-2", "0:F0 1:F1 2:F0 3:A2")
                .orders("0-1, 2 s 0-1, 3-0").settles(2, 1, 4, 1, 1).stands("0:A2 1:F0 2:F0").aside("1:F1");
        new Scene(CHECK, "a fleet and an army head-on", "L L S", "0-1 0-2 1-2", "0:A0 1:A1 2:F0")
                .orders("0-1, 1-0, 2 s 0-1").settles(1, 1, 4, 1);
    }

    private static void convoys() {
        new Scene(CHECK, "over one SEA", "L L S", "0-2 2-1", "0:A0 2:F1")
                .orders("0-1, 2 c 0-1").settles(1, 1, 0, 1).stands("1:A0 2:F1").isIn(1, 2);
        new Scene(CHECK, "over three", "L L S S S", "0-4 4-2 2-3 3-1", "0:A0 2:F1 3:F2 4:F0")
                .orders("0-1, 2 c 0-1, 3 c 0-1, 4 c 0-1").settles(1, 1, 0, 1, 1, 1);
        new Scene(CHECK, "over the first area", "S S S L L", "3-1 1-0 0-2 2-4", "0:F1 1:F2 2:F0 3:A0")
                .orders("3-4, 0 c 3-4, 1 c 3-4, 2 c 3-4").settles(1, 1, 1, 1, 1, 0);
        new Scene(CHECK, "over all that there may be", "L S S S S S S S S S S L",
                "0-10 10-1 1-9 9-2 2-8 8-3 3-7 7-4 4-6 6-5 5-11",
                "0:A0 1:F0 2:F0 3:F0 4:F0 5:F0 6:F0 7:F0 8:F0 9:F0 10:F0")
                .orders("0-11, 1 c 0-11, 2 c 0-11, 3 c 0-11, 4 c 0-11, 5 c 0-11, 6 c 0-11, 7 c 0-11, 8 c 0-11, "
                        + "9 c 0-11, 10 c 0-11").settles(1, 1, 1, 1, 1, 1, 1, 1, 1, 1, 1, 1, 0);
        new Scene(CHECK, "attacked but not displaced", "L L S S", "0-2 2-1 2-3", "0:A0 2:F0 3:F1")
                .orders("0-1, 2 c 0-1, 3-2").settles(1, 1, 0, 1, 2);
        new Scene(CHECK, "another way is left", "L L S S S S", "0-2 2-1 2-4 4-5 2-5 0-3 3-1",
                "0:A0 2:F0 3:F2 4:F1 5:F1")
                .orders("0-1, 2 c 0-1, 3 c 0-1, 4-2, 5 s 4-2").settles(2, 1, 0, 4, 1, 1, 1);
        new Scene(CHECK, "a CONVOY alone", "L L S", "0-2 2-1", "0:A0 2:F1").orders("2 c 0-1").settles(0, 1, 0, 1);
        new Scene(CHECK, "on foot where one can", "L L S", "0-1 0-2 2-1", "0:A0 1:A1 2:F0")
                .orders("0-1, 1-0, 2 c 0-1").settles(0, 2, 2, 1);
    }

    private static void brokenConvoys() {
        String two = "0-2 2-3 3-1 2-4 3-4 4-5 2-5";
        new Scene(CHECK, "no fleet", "L L S", "0-2 2-1", "0:A0").orders("0-1").settles(0, 2, 0, 0);
        new Scene(CHECK, "the fleet holds", "L L S", "0-2 2-1", "0:A0 2:F0").orders("0-1").settles(0, 2, 0, 1);
        new Scene(CHECK, "it carries another army", "L L S L", "0-2 2-1 2-3", "0:A0 2:F0 3:A0")
                .orders("0-1, 2 c 3-1").settles(0, 2, 0, 1, 1);
        new Scene(CHECK, "it carries to elsewhere", "L L S L", "0-2 2-1 2-3", "0:A0 2:F0")
                .orders("0-1, 2 c 0-3").settles(0, 2, 0, 1, 0);
        new Scene(CHECK, "the chain doesn't begin", "L L S S", "2-3 3-1", "0:A0 2:F0 3:F0")
                .orders("0-1, 2 c 0-1, 3 c 0-1").settles(0, 2, 0, 1, 1);
        new Scene(CHECK, "the chain doesn't end", "L L S S", "0-2 2-3", "0:A0 2:F0 3:F0")
                .orders("0-1, 2 c 0-1, 3 c 0-1").settles(0, 2, 0, 1, 1);
        new Scene(CHECK, "the chain has a gap", "L L S S", "0-2 3-1", "0:A0 2:F0 3:F0")
                .orders("0-1, 2 c 0-1, 3 c 0-1").settles(0, 2, 0, 1, 1);
        new Scene(CHECK, "LAND is no link", "L L S S L", "0-2 2-4 4-3 3-1", "0:A0 2:F0 3:F0 4:F0")
                .orders("0-1, 2 c 0-1, 3 c 0-1").settles(0, 2, 0, 1, 1, 1);
        new Scene(CHECK, "one of two is displaced", "L L S S S S", two, "0:A0 2:F0 3:F0 4:F1 5:F1")
                .orders("0-1, 2 c 0-1, 3 c 0-1, 4-2, 5 s 4-2").settles(1, 2, 0, 4, 1, 1, 1);
    }

    private static void convoyedAttacks() {
        String map = "0-2 2-1 1-3 1-4 3-4";
        new Scene(CHECK, "by sea with support", "L L S L L", map, "0:A0 1:A1 2:F0 3:A0")
                .orders("0-1, 2 c 0-1, 3 s 0-1").settles(1, 1, 4, 1, 1, 0).aside("1:A1");
        new Scene(CHECK, "by sea it cuts", "L L S L L", map, "0:A0 1:A1 2:F0 3:A2 4:A1")
                .orders("0-1, 2 c 0-1, 1 s 4-3, 4-3").settles(0, 2, 3, 1, 1, 2);
        new Scene(CHECK, "by sea it doesn't cut without a path", "L L S L L", map, "0:A0 1:A1 2:F0 3:A2 4:A1")
                .orders("0-1, 1 s 4-3, 4-3").settles(1, 2, 1, 1, 4, 1);
    }

    private static void swapsBySea() {
        new Scene(CHECK, "both by sea", "L L S S", "0-2 2-1 0-3 3-1", "0:A0 1:A1 2:F0 3:F1")
                .orders("0-1, 1-0, 2 c 0-1, 3 c 1-0").settles(2, 1, 1, 1, 1).stands("0:A1 1:A0 2:F0 3:F1");
        new Scene(CHECK, "one has no path", "L L S S", "0-2 2-1 0-3 3-1", "0:A0 1:A1 2:F0 3:F1")
                .orders("0-1, 1-0, 2 c 0-1").settles(0, 2, 2, 1, 1);
        new Scene(CHECK, "a ring with one by sea", "L L L S", "0-1 1-2 2-3 3-0", "0:A0 1:A1 2:A2 3:F3")
                .orders("0-1, 1-2, 2-0, 3 c 2-0").settles(3, 1, 1, 1, 1);
    }

    private static void movesWithoutPath() {
        new Scene(CHECK, "prevent nothing", "L L S L", "0-2 2-1 3-1", "0:A0 2:F0 3:A1")
                .orders("0-1, 3-1").settles(1, 2, 0, 1, 1);
        new Scene(CHECK, "prevent, if they have one", "L L S L", "0-2 2-1 3-1", "0:A0 2:F0 3:A1")
                .orders("0-1, 2 c 0-1, 3-1").settles(0, 2, 0, 1, 2);
        new Scene(CHECK, "a support for one is given", "L L S L", "0-2 2-1 3-1", "0:A0 2:F0 3:A1")
                .orders("0-1, 3 s 0-1").settles(0, 2, 0, 1, 1);
        new Scene(CHECK, "no SEA at all", "L L L", "2-1", "0:A0").orders("0-1").settles(0, 2, 0, 0);
    }

    // An army at 0 goes over 1 to 3, where the attack from 2 on 1 is supported: if it arrives, the support is cut,
    // and 1 stands; if 1 falls, it doesn't arrive, and the support isn't cut.
    private static final String STRAIT = "0-1 1-3 1-2 3-4";

    private static void paradox() {
        // The MOVE by sea is too weak anyway, so the least open one is that from 2.
        new Scene(CHECK, "paradox", "L S S L L", STRAIT, "0:A0 1:F0 2:F1 3:F1")
                .orders("0-3, 1 c 0-3, 2-1, 3 s 2-1").settles(0, 2, 1, 2, 3, 0).isIn(1, 2);
    }

    private static void paradoxOfAnOpenMove() {
        // First the MOVE by sea, then the one that is left.
        new Scene(CHECK, "paradox of an open MOVE", "L S S L L", STRAIT, "0:A0 1:F0 2:F1 3:F1 4:A0")
                .orders("0-3, 1 c 0-3, 2-1, 3 s 2-1, 4 s 0-3").settles(0, 2, 1, 2, 3, 1).isIn(1, 2);
        // Behind it others wait; they hang on what is left over.
        new Scene(CHECK, "paradox with one behind", "L S S L L S", STRAIT + " 2-5", "0:A0 1:F0 2:F1 3:F1 4:A0 5:F2")
                .orders("0-3, 1 c 0-3, 2-1, 3 s 2-1, 4 s 0-3, 5-2").settles(0, 2, 1, 2, 3, 1, 2);
    }

    private static void seaMovesFailBeforeTheLeast() {
        // If the MOVE from 0 failed first, that from 2 would succeed.
        new Scene(CHECK, "by sea first", "S S L L L", "0-1 1-2 1-3 3-4", "0:F1 1:F0 2:A0 3:F1 4:A0")
                .orders("0-1, 1 c 2-3, 2-3, 3 s 0-1, 4 s 2-3").settles(0, 2, 1, 2, 3, 1);
    }

    private static void leftoversSettleOthers() {
        // The MOVE from 0 is the least open one: it fails, so that the army from 7 comes and cuts the support for 2's
        // staying, and 2 is displaced. Then the one from 1 has no path, and the support at 3 is given for nothing.
        String areas = "S L S L S S S L L L";
        String borders = "1-2 2-3 2-4 2-5 4-5 6-0 7-6 6-8 3-6 8-2 3-9";
        String units = "0:F3 1:A0 2:F1 3:F3 4:F2 5:F2 6:F2 7:A0 8:F1";
        String orders = "0-6, 1-3, 2 c 1-3, 3 s 0-6, 4-2, 5 s 4-2, 6 c 7-8, 7-8, 8 s 2";
        new Scene(CHECK, "others behind the least", areas, borders, units).orders(orders)
                .settles(1, 2, 2, 4, 1, 1, 1, 1, 2, 3, 0).aside("2:F1");
        // The same with an open MOVE by sea before.
        new Scene(CHECK, "others behind a MOVE by sea", areas, borders, units + " 9:A0").orders(orders + ", 9 s 1-3")
                .settles(1, 2, 2, 4, 1, 1, 1, 1, 2, 3, 1).aside("2:F1");
    }

    private static void attackersOfBothCarriers() {
        // Each army by sea would cut the support against the other one's carrier: as the MOVE from 2 is the least and
        // fails, the first one comes and cuts, so that the second one comes and cuts, too.
        String areas = "L S S L L S S L";
        String borders = "0-1 1-3 1-2 4-5 5-7 5-6 3-5 7-1";
        String units = "0:A0 1:F0 2:F1 3:F1 4:A2 5:F2 6:F3 7:F3";
        new Scene(CHECK, "two by two", areas, borders, units)
                .orders("0-3, 1 c 0-3, 2-1, 3 s 6-5, 4-7, 5 c 4-7, 6-5, 7 s 2-1")
                .settles(0, 2, 1, 2, 3, 2, 1, 2, 3);
    }

    private static void ringsAndParadoxes() {
        // The paradox is settled first, as it has the least area; all open MOVES by sea fail then, the ring's, too.
        new Scene(CHECK, "a ring behind a paradox", "L S S L L L S S", "0-1 1-3 1-2 4-6 6-5 4-7 7-5",
                "0:A0 1:F0 2:F1 3:F1 4:A2 5:A3 6:F2 7:F3")
                .orders("0-3, 1 c 0-3, 2-1, 3 s 2-1, 4-5, 5-4, 6 c 4-5, 7 c 5-4")
                .settles(0, 2, 1, 2, 3, 2, 2, 1, 1);
        new Scene(CHECK, "a ring before a paradox", "L L S S L S S L", "0-2 2-1 0-3 3-1 4-5 5-7 5-6",
                "0:A2 1:A3 2:F2 3:F3 4:A0 5:F0 6:F1 7:F1")
                .orders("0-1, 1-0, 2 c 0-1, 3 c 1-0, 4-7, 5 c 4-7, 6-5, 7 s 6-5")
                .settles(2, 1, 1, 1, 1, 2, 1, 2, 3);
    }

    /** What the unit at area 0 does counts as much as what others do. */
    private static void theFirstArea() {
        land("it supports a MOVE", 4, "0:A0 1:A0 3:A1").orders("0 s 1-2, 1-2, 3-2").settles(1, 1, 1, 0, 2);
        land("it supports staying", 4, "0:A1 1:A0 2:A1 3:A0").orders("0 s 2, 1-2, 3 s 1-2").settles(0, 1, 2, 1, 1);
        land("it supports one head-on", 4, "0:A1 1:A0 2:A1 3:A0").orders("0 s 2-1, 1-2, 2-1, 3 s 1-2")
                .settles(0, 1, 2, 2, 1);
        land("it supports one that prevents", 5, "0:A0 1:A0 3:A1 4:A1").orders("0 s 1-2, 1-2, 3-2, 4 s 3-2")
                .settles(0, 1, 2, 0, 2, 1);
        land("it fails beside a ring", 6, "0:A0 1:A1 2:A2 3:A3 5:A1").orders("0-4, 5-4, 1-2, 2-3, 3-1")
                .settles(3, 2, 1, 1, 1, 0, 2).stands("0:A0 1:A3 2:A1 3:A2 5:A1");
        new Scene(CHECK, "it carries nobody", "S L L", "0-1 0-2", "0:F0 1:A0").orders("1-2").settles(0, 1, 2, 0);
    }

    private static void severalUnitsOfOnePlayer() {
        // All of them are the player's own, whichever of them stands at the greatest area.
        land("the first one doesn't cut", 4, "0:A0 1:A1 2:A0 3:A0").orders("0-2, 2 s 3-1, 3-1").settles(1, 2, 4, 1, 1);
        land("no support against one's own", 6, "0:A1 1:A1 4:A1 5:A0").orders("5-4, 0 s 5-4, 1 s 5-4")
                .settles(0, 1, 1, 0, 0, 1, 2);
    }

    private static void nothingOfAnEarlierTurn() {
        new Scene(CHECK, "by sea, then on foot", "L L S L", "0-2 2-1 0-3", "0:A0 2:F0").orders("0-1")
                .settles(0, 2, 0, 1, 0).orders("0-3").settles(1, 1, 0, 1, 0);
        new Scene(CHECK, "carried, then not", "L L S L", "0-2 2-1 1-3", "0:A0 2:F0 3:A1")
                .orders("0-1, 2 c 0-1, 3-1").settles(0, 2, 0, 1, 2).orders("0-1").settles(0, 2, 0, 1, 1);
        land("head-on, then one behind the other", 3, "0:A0 1:A1").orders("0-1, 1-0").settles(0, 2, 2, 0)
                .orders("0-1, 1-2").settles(2, 1, 1, 0);
        land("given, then void", 3, "0:A0 1:A1").orders("0 s 1").settles(0, 1, 1, 0).orders("0 s 1-2")
                .settles(0, 3, 1, 0);
        land("moved, then stopped", 3, "0:A0 1:A1 2:A2").orders("0-1, 1-2, 2-0").settles(3, 1, 1, 1)
                .orders("0-1").settles(0, 2, 1, 1);
        // In turn 2 the unit at 1 is player 1's, and cuts what player 0 supports.
        Scene taken = land("another player's area", 5, "0:A1 1:A0 2:A0 3:A2 4:A0").orders("0-1, 1-3, 3-0");
        taken.settles(3, 1, 1, 1, 1, 1).stands("0:A2 1:A1 2:A0 3:A0 4:A0");
        taken.orders("1-2, 2 s 3-0, 3-0").settles(0, 1, 2, 3, 2, 1);
    }

    private static void results() {
        Scene scene = land("results", 4, "0:A0 1:A1 2:A0");
        scene.tells(0, 0, 0, 0);
        scene.orders("0-1, 2 s 0-1").settles(1, 1, 4, 1, 0);
        for (int area : new int[] {-1, 4, 12, Integer.MIN_VALUE, Integer.MAX_VALUE}) {
            CHECK.due("result(" + area + ")", scene.war.result(area), 0);
        }
        scene.finish(1).tells(1, 4, 1, 0);
        scene.orders("1-3").tells(1, 4, 1, 0).settles(1, 0, 1, 1, 0).stands("2:A0 3:A0");
        new Scene(CHECK, "whatever became of it", "L L S S S L", "0-2 2-1 2-3 2-4 3-4 5-2", "0:A0 2:F0 3:F1 4:F1")
                .orders("0-1, 2 c 0-1, 3-2, 4 s 3-2").settles(1, 2, 0, 4, 1, 1, 0);
    }

    private static void states() {
        SheetWar early = new SheetWar();
        CHECK.refusesState("resolve() in SET-UP", early::resolve);
        Scene scene = land("states", 4, "0:A0 1:A1 2:A0");
        scene.orders("0-1, 2 s 0-1").settles(1, 1, 4, 1, 0).isIn(2, 1);
        CHECK.refusesState("resolve() in RETREATS", scene.war::resolve);
        scene.finish(1);
        scene.settles(0, 0, 1, 1, 0).isIn(3, 2);
        CHECK.refusesState("resolve() in BUILDS", scene.war::resolve);
        scene.tells(0, 1, 1, 0);
    }
}
