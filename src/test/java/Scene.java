/**
 * A war written down in short texts.
 *
 * <p>Areas: "L S C H2" is land, sea, a center of nobody's and a home center of player 2, numbered from 0 on. Borders:
 * "0-1 1-2". Units: "0:A1 3:F0" is an army of player 1 at 0 and a fleet of player 0 at 3. Orders: "0-1" moves,
 * "2 s 0-1" supports that move, "2 s 0" supports staying, "3 c 0-1" convoys, "2 h" holds.
 */
final class Scene {
    final SheetWar war;
    private final Check check;
    private final String title;
    private final int size;

    Scene(Check check, String title, String areas, String borders, String units) {
        this.check = check;
        this.title = title;
        size = words(areas).length;
        war = setUp(areas, borders, units);
        war.start();
    }

    /** Such a war before its start. */
    static SheetWar setUp(String areas, String borders, String units) {
        SheetWar war = new SheetWar();
        for (String kind : words(areas)) {
            boolean home = kind.charAt(0) == 'H';
            war.area(kind.equals("S") ? 1 : 0, home || kind.equals("C"), home ? kind.charAt(1) - '0' : SheetWar.NONE);
        }
        for (String pair : words(borders)) {
            String[] ends = pair.split("-");
            war.border(Integer.parseInt(ends[0]), Integer.parseInt(ends[1]));
        }
        for (String unit : words(units)) {
            int code = codeOf(unit);
            war.unit(areaOf(unit), code / 2, code % 2);
        }
        return war;
    }

    /** All areas border one another. */
    static String allOf(int size) {
        StringBuilder pairs = new StringBuilder();
        for (int a = 0; a < size; a++) {
            for (int b = a + 1; b < size; b++) {
                pairs.append(a).append('-').append(b).append(' ');
            }
        }
        return pairs.toString();
    }

    private static String[] words(String text) {
        return text.isBlank() ? new String[0] : text.trim().split("\\s+");
    }

    private static int areaOf(String unit) {
        return Integer.parseInt(unit.substring(0, unit.indexOf(':')));
    }

    private static int codeOf(String unit) {
        int colon = unit.indexOf(':');
        int kind = unit.charAt(colon + 1) == 'F' ? 1 : 0;
        return 2 * (unit.charAt(colon + 2) - '0') + kind;
    }

    private String about(String call) {
        return title + ": " + call;
    }

    Scene orders(String orders) {
        for (String order : orders.split(",")) {
            check.due(about("order " + order.trim()), give(order.trim()), 0);
        }
        return this;
    }

    private int give(String order) {
        String[] parts = order.split("\\s+");
        if (parts.length == 1) {
            String[] ends = order.split("-");
            return give(Integer.parseInt(ends[0]), 1, Integer.parseInt(ends[1]), 0);
        }
        int area = Integer.parseInt(parts[0]);
        if (parts[1].equals("h")) {
            return give(area, 0, 0, 0);
        }
        String[] ends = parts[2].split("-");
        int x = Integer.parseInt(ends[0]);
        int y = ends.length == 1 ? x : Integer.parseInt(ends[1]);
        return give(area, parts[1].equals("s") ? 2 : 3, x, y);
    }

    private int give(int area, int kind, int x, int y) {
        return war.order(war.at(area) / 2, area, kind, x, y);
    }

    /** How many moves succeed, and the result of each area. */
    Scene settles(int moves, int... results) {
        check.due(about("resolve()"), war.resolve(), moves);
        return tells(results);
    }

    Scene tells(int... results) {
        check.due(about("areas told of"), results.length, size);
        for (int a = 0; a < size; a++) {
            check.due(about("result(" + a + ")"), war.result(a), results[a]);
        }
        return this;
    }

    Scene stands(String units) {
        for (int a = 0; a < size; a++) {
            check.due(about("at(" + a + ")"), war.at(a), codeAt(units, a));
        }
        return this;
    }

    Scene aside(String units) {
        for (int a = 0; a < size; a++) {
            check.due(about("displaced(" + a + ")"), war.displaced(a), codeAt(units, a));
        }
        return this;
    }

    private static int codeAt(String units, int area) {
        for (String unit : words(units)) {
            if (areaOf(unit) == area) {
                return codeOf(unit);
            }
        }
        return SheetWar.NONE;
    }

    /** All areas to which the displaced unit may go, and no other. */
    Scene mayGo(int area, String places) {
        for (int to = -1; to <= size; to++) {
            boolean due = false;
            for (String place : words(places)) {
                due |= Integer.parseInt(place) == to;
            }
            check.due(about("mayGo(" + area + ", " + to + ")"), war.mayGo(area, to), due);
        }
        return this;
    }

    Scene owners(int... owners) {
        for (int a = 0; a < size; a++) {
            check.due(about("owner(" + a + ")"), war.owner(a), owners[a]);
        }
        return this;
    }

    Scene retreat(int area, int to, int answer) {
        return retreat(war.displaced(area) / 2, area, to, answer);
    }

    Scene retreat(int player, int area, int to, int answer) {
        check.due(about("retreat(" + player + ", " + area + ", " + to + ")"), war.retreat(player, area, to), answer);
        return this;
    }

    Scene build(int player, int area, int kind, int answer) {
        check.due(about("build(" + player + ", " + area + ", " + kind + ")"), war.build(player, area, kind), answer);
        return this;
    }

    Scene counts(int player, int centers, int units) {
        check.due(about("count(" + player + ", 0)"), war.count(player, 0), centers);
        check.due(about("count(" + player + ", 1)"), war.count(player, 1), units);
        return this;
    }

    Scene finish(int phase) {
        check.due(about("finish()"), war.finish(), phase);
        return this;
    }

    Scene undo(boolean answer) {
        check.due(about("undo()"), war.undo(), answer);
        return this;
    }

    Scene isIn(int phase, int turn) {
        check.due(about("phase()"), war.phase(), phase);
        check.due(about("turn()"), war.turn(), turn);
        return this;
    }

    Scene told(int area, int kind, int x, int y) {
        check.due(about("told(" + area + ", 0)"), war.told(area, 0), kind);
        check.due(about("told(" + area + ", 1)"), war.told(area, 1), x);
        check.due(about("told(" + area + ", 2)"), war.told(area, 2), y);
        return this;
    }
}
