import java.util.Random;

/**
 * A war written down in short texts.
 *
 * <p>Areas: "L S C H2" is land, sea, a center of nobody's and a home center of player 2, numbered from 0 on. Borders:
 * "0-1 1-2". Units: "0:A1 3:F0" is an army of player 1 at 0 and a fleet of player 0 at 3. Orders: "0-1" moves,
 * "2 s 0-1" supports that move, "2 s 0" supports staying, "3 c 0-1" convoys, "2 h" holds.
 *
 * <p>Little in the document hangs on which number an area has. So most scenes are played in several ways: as they are
 * written, and with their areas dealt out among twelve, where the others are LAND that borders nothing.
 */
final class Scene {
    static final int WAYS = 40;

    private static final int MOST_AREAS = 12;
    private static final int AS_WRITTEN = 0;

    private static int way = AS_WRITTEN;

    final SheetWar war;
    private final Check check;
    private final String title;
    private final int size;
    private final int[] numbers;

    Scene(Check check, String title, String areas, String borders, String units) {
        this.check = check;
        this.title = way == AS_WRITTEN ? title : title + " (dealt out, way " + way + ")";
        size = words(areas).length;
        numbers = way == AS_WRITTEN ? inOrder(size) : dealtOut(way);
        war = setUp(numbers, areas, borders, units);
        war.start();
    }

    /** Plays the scenes in all ways. What hangs on the numbers of areas must not be among them. */
    static void inAllWays(Runnable scenes) {
        for (way = WAYS - 1; way > AS_WRITTEN; way--) {
            scenes.run();
        }
        scenes.run();
    }

    private static int[] inOrder(int size) {
        int[] numbers = new int[size];
        for (int i = 0; i < size; i++) {
            numbers[i] = i;
        }
        return numbers;
    }

    private static int[] dealtOut(int seed) {
        int[] numbers = inOrder(MOST_AREAS);
        Random random = new Random(seed);
        for (int i = MOST_AREAS - 1; i > 0; i--) {
            int j = random.nextInt(i + 1);
            int number = numbers[i];
            numbers[i] = numbers[j];
            numbers[j] = number;
        }
        return numbers;
    }

    /** Such a war before its start. */
    static SheetWar setUp(String areas, String borders, String units) {
        return setUp(inOrder(words(areas).length), areas, borders, units);
    }

    private static SheetWar setUp(int[] numbers, String areas, String borders, String units) {
        SheetWar war = new SheetWar();
        for (String kind : dealt(words(areas), numbers)) {
            boolean home = kind.charAt(0) == 'H';
            war.area(kind.equals("S") ? 1 : 0, home || kind.equals("C"), home ? kind.charAt(1) - '0' : SheetWar.NONE);
        }
        for (String pair : words(borders)) {
            String[] ends = pair.split("-");
            war.border(numbers[Integer.parseInt(ends[0])], numbers[Integer.parseInt(ends[1])]);
        }
        for (String unit : words(units)) {
            int code = codeOf(unit);
            war.unit(numbers[areaOf(unit)], code / 2, code % 2);
        }
        return war;
    }

    private static String[] dealt(String[] kinds, int[] numbers) {
        String[] all = new String[numbers.length];
        for (int i = 0; i < numbers.length; i++) {
            all[numbers[i]] = i < kinds.length ? kinds[i] : "L";
        }
        return all;
    }

    /** The number that an area of the scene has in the war; no area's, if the scene has none such. */
    private int number(int area) {
        if (area < 0) {
            return area;
        }
        return area < size ? numbers[area] : numbers.length - size + area;
    }

    /** All areas border one another. */
    static String allOf(int size) {
        StringBuilder pairs = new StringBuilder();
        for (int a = 0; a < size; a++) {
            for (int b = a + 1; b < size; b++) {
                pairs.append(a).append('-').append(b).append(' ');
            }
        }
        return pairs.toString();
    }

    private static String[] words(String text) {
        return text.isBlank() ? new String[0] : text.trim().split("\\s+");
    }

    private static int areaOf(String unit) {
        return Integer.parseInt(unit.substring(0, unit.indexOf(':')));
    }

    private static int codeOf(String unit) {
        int colon = unit.indexOf(':');
        int kind = unit.charAt(colon + 1) == 'F' ? 1 : 0;
        return 2 * (unit.charAt(colon + 2) - '0') + kind;
    }

    private String about(String call) {
        return title + ": " + call;
    }

    Scene orders(String orders) {
        for (String order : orders.split(",")) {
            check.due(about("order " + order.trim()), give(order.trim()), 0);
        }
        return this;
    }

    private int give(String order) {
        String[] parts = order.split("\\s+");
        if (parts.length == 1) {
            String[] ends = order.split("-");
            return give(Integer.parseInt(ends[0]), 1, Integer.parseInt(ends[1]), 0);
        }
        int area = Integer.parseInt(parts[0]);
        if (parts[1].equals("h")) {
            return give(area, 0, 0, 0);
        }
        String[] ends = parts[2].split("-");
        int x = Integer.parseInt(ends[0]);
        int y = ends.length == 1 ? x : Integer.parseInt(ends[1]);
        return give(area, parts[1].equals("s") ? 2 : 3, x, y);
    }

    private int give(int area, int kind, int x, int y) {
        return war.order(war.at(number(area)) / 2, number(area), kind, number(x), number(y));
    }

    /** How many moves succeed, and the result of each area. */
    Scene settles(int moves, int... results) {
        check.due(about("resolve()"), war.resolve(), moves);
        return tells(results);
    }

    Scene tells(int... results) {
        check.due(about("areas told of"), results.length, size);
        for (int a = 0; a < size; a++) {
            check.due(about("result(" + a + ")"), war.result(number(a)), results[a]);
        }
        return this;
    }

    Scene stands(String units) {
        for (int a = 0; a < size; a++) {
            check.due(about("at(" + a + ")"), war.at(number(a)), codeAt(units, a));
        }
        return this;
    }

    Scene aside(String units) {
        for (int a = 0; a < size; a++) {
            check.due(about("displaced(" + a + ")"), war.displaced(number(a)), codeAt(units, a));
        }
        return this;
    }

    private static int codeAt(String units, int area) {
        for (String unit : words(units)) {
            if (areaOf(unit) == area) {
                return codeOf(unit);
            }
        }
        return SheetWar.NONE;
    }

    /** All areas to which the displaced unit may go, and no other. */
    Scene mayGo(int area, String places) {
        for (int to = -1; to <= size; to++) {
            boolean due = false;
            for (String place : words(places)) {
                due |= Integer.parseInt(place) == to;
            }
            check.due(about("mayGo(" + area + ", " + to + ")"), war.mayGo(number(area), number(to)), due);
        }
        return this;
    }

    Scene owners(int... owners) {
        for (int a = 0; a < size; a++) {
            check.due(about("owner(" + a + ")"), war.owner(number(a)), owners[a]);
        }
        return this;
    }

    Scene retreat(int area, int to, int answer) {
        return retreat(war.displaced(number(area)) / 2, area, to, answer);
    }

    Scene retreat(int player, int area, int to, int answer) {
        check.due(about("retreat(" + player + ", " + area + ", " + to + ")"),
                war.retreat(player, number(area), number(to)), answer);
        return this;
    }

    Scene build(int player, int area, int kind, int answer) {
        check.due(about("build(" + player + ", " + area + ", " + kind + ")"),
                war.build(player, number(area), kind), answer);
        return this;
    }

    Scene counts(int player, int centers, int units) {
        check.due(about("count(" + player + ", 0)"), war.count(player, 0), centers);
        check.due(about("count(" + player + ", 1)"), war.count(player, 1), units);
        return this;
    }

    Scene finish(int phase) {
        check.due(about("finish()"), war.finish(), phase);
        return this;
    }

    Scene undo(boolean answer) {
        check.due(about("undo()"), war.undo(), answer);
        return this;
    }

    Scene isIn(int phase, int turn) {
        check.due(about("phase()"), war.phase(), phase);
        check.due(about("turn()"), war.turn(), turn);
        return this;
    }

    Scene told(int area, int kind, int x, int y) {
        check.due(about("told(" + area + ", 0)"), war.told(number(area), 0), kind);
        check.due(about("told(" + area + ", 1)"), war.told(number(area), 1), kind == 0 ? x : number(x));
        check.due(about("told(" + area + ", 2)"), war.told(number(area), 2), kind <= 1 ? y : number(y));
        return this;
    }
}
