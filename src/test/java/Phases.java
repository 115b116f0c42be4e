import java.util.ArrayList;
import java.util.List;

/**
 * One war in each phase, each with something said in it already that a refused call might spoil.
 *
 * <p>0 is home of player 0, 4 of player 2, 3 is SEA; 0-2, 0-3, 0-4, 1-3, 2-4 and 3-4 don't border.
 */
final class Phases {
    static final int SIZE = 5;
    static final int SET_UP = 0;
    static final int ORDERS = 1;
    static final int RETREATS = 2;
    static final int BUILDS = 3;

    private static final String AREAS = "H0 L L S H2";
    private static final String BORDERS = "0-1 1-2 1-4 2-3";
    private static final String UNITS = "0:A0 1:A1 2:A0 3:F1";

    private final Check check;

    Phases(Check check) {
        this.check = check;
    }

    Twins in(int phase) {
        String name = new String[] {"SET-UP", "ORDERS", "RETREATS", "BUILDS"}[phase];
        return new Twins(check, name, SIZE, () -> made(phase));
    }

    List<Twins> beside(int... phases) {
        List<Twins> others = new ArrayList<>();
        for (int phase = SET_UP; phase <= BUILDS; phase++) {
            boolean isOne = false;
            for (int named : phases) {
                isOne |= named == phase;
            }
            if (!isOne) {
                others.add(in(phase));
            }
        }
        return others;
    }

    private SheetWar made(int phase) {
        switch (phase) {
            case SET_UP:
                return Scene.setUp(AREAS, BORDERS, UNITS);
            case ORDERS:
                return ordered();
            case RETREATS:
                return displaced();
            default:
                return built();
        }
    }

    private Scene started() {
        return new Scene(check, "phases", AREAS, BORDERS, UNITS);
    }

    /** 0 goes to 1 with the support of 2. */
    private SheetWar ordered() {
        return started().orders("0-1, 2 s 0-1").war;
    }

    /** The army of player 1 is displaced from 1, and is to go to 4. */
    private SheetWar displaced() {
        SheetWar war = ordered();
        check.due("resolve() on the way to RETREATS", war.resolve(), 1);
        check.due("retreat() before others", war.retreat(1, 1, 4), 0);
        return war;
    }

    /** Player 0 had one too many, at 2; player 1 has two too many, player 2 one too few. */
    private SheetWar built() {
        SheetWar war = started().war;
        war.resolve();
        war.resolve();
        check.due("build() before others", war.build(0, 2, 2), 0);
        return war;
    }
}
