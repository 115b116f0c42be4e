/** What a war answers, written down: now, on its way on without any more orders, and on its way back. */
final class Story {
    private final SheetWar war;
    private final int size;
    private final StringBuilder text = new StringBuilder();
    private int areas;
    private int asked;

    Story(SheetWar war, int size) {
        this.war = war;
        this.size = size;
        areas = size;
    }

    int asked() {
        return asked;
    }

    @Override
    public String toString() {
        return text.toString();
    }

    private void add(long answer) {
        asked++;
        text.append(answer).append(' ');
    }

    private void add(boolean answer) {
        add(answer ? 1 : 0);
    }

    void tell() {
        look();
        if (phase() == 0) {
            endSetUp();
            look();
        }
        if (phase() == 1) {
            add(war.resolve());
            look();
        }
        // RETREATS and BUILDS, at most.
        for (int i = 0; i < 2 && phase() != 1; i++) {
            add(war.finish());
            look();
        }
        tryAreaBehindTheLast();
        tryToSupport();
        boolean more = true;
        while (more) {
            more = war.undo();
            add(more);
            lookAtUnits();
        }
    }

    private int phase() {
        asked++;
        return war.phase();
    }

    private int at(int area) {
        asked++;
        return war.at(area);
    }

    /** All that can be looked at. */
    void look() {
        lookAtUnits();
        for (int area = 0; area < size; area++) {
            int aside = war.displaced(area);
            add(aside);
            add(war.owner(area));
            for (int to = 0; aside != SheetWar.NONE && to < size; to++) {
                add(war.mayGo(area, to));
            }
        }
        for (int player = 0; player < 4; player++) {
            add(war.count(player, 0));
            add(war.count(player, 1));
        }
    }

    private void lookAtUnits() {
        add(war.phase());
        add(war.turn());
        for (int area = 0; area < size; area++) {
            add(war.at(area));
            add(war.result(area));
            add(war.told(area, 0));
            add(war.told(area, 1));
            add(war.told(area, 2));
        }
        text.append('\n');
    }

    /** The number of the next area tells how many there are, and border() which of them border. */
    private void endSetUp() {
        for (int a = 0; a < size; a++) {
            for (int b = a + 1; b < size; b++) {
                add(war.border(a, b));
            }
        }
        areas = war.area(1, false, SheetWar.NONE) + 1;
        add(areas);
        asked++;
        war.start();
    }

    private void tryAreaBehindTheLast() {
        try {
            add(war.order(0, areas, 0, 0, 0));
        } catch (IllegalArgumentException e) {
            asked++;
        }
    }

    /** Where a unit can go, and so what borders, is told by which supports it may get. */
    private void tryToSupport() {
        for (int area = 0; area < size; area++) {
            int unit = at(area);
            int other = unit == SheetWar.NONE ? SheetWar.NONE : anotherUnit(area);
            for (int y = 0; other != SheetWar.NONE && y < size; y++) {
                add(war.order(unit / 2, area, 2, other, y));
            }
        }
    }

    private int anotherUnit(int area) {
        for (int other = 0; other < size; other++) {
            if (other != area && at(other) != SheetWar.NONE) {
                return other;
            }
        }
        return SheetWar.NONE;
    }
}
