import java.util.ArrayDeque;
import java.util.ArrayList;
import java.util.Deque;
import java.util.HashMap;
import java.util.HashSet;
import java.util.List;
import java.util.Map;
import java.util.Set;
import java.util.TreeSet;
import java.util.regex.Pattern;

/**
 * The document once more, as slow and as plain as can be, for runs of calls in which both
 * have to answer alike. It shares no idea of how to hold or search the state with the class:
 * ships are maps, cells are found by walking, distances and bearings by trying, texts by
 * regular expressions.
 */
final class PlainModel {
    private static final int[] ROW = {0, 1, 1, 0, -1, -1};
    private static final int[] COLUMN = {1, 0, -1, -1, 0, 1};
    private static final String[] ABOUT = {"side", "cell", "heading", "hull", "sails", "guns0", "guns1",
        "crew", "points", "wait0", "wait1", "partner"};
    private static final Pattern ORDERS = Pattern.compile("([0-9][alr];|w[0-5];|e;)*");
    private static final Pattern ORDERS_BEGUN = Pattern.compile("([0-9][alr];|w[0-5];|e;)*([0-9][alr]?|w[0-5]?|e)?");

    private static final class State {
        int width = 10;
        int height = 8;
        int wind = 0;
        int strength = 2;
        int round = 1;
        TreeSet<Integer> rocks = new TreeSet<>();
        List<Map<String, Integer>> ships = new ArrayList<>();

        State copy() {
            State c = new State();
            c.width = width;
            c.height = height;
            c.wind = wind;
            c.strength = strength;
            c.round = round;
            c.rocks = new TreeSet<>(rocks);
            for (Map<String, Integer> s : ships) {
                c.ships.add(new HashMap<>(s));
            }
            return c;
        }
    }

    private State now = new State();
    private final Deque<State> saved = new ArrayDeque<>();
    private String text = "";

    private void save() {
        saved.addLast(now.copy());
        if (saved.size() > 4) {
            saved.removeFirst();
        }
    }

    private static void bounds(boolean good) {
        if (!good) {
            throw new IndexOutOfBoundsException();
        }
    }

    private static void argument(boolean good) {
        if (!good) {
            throw new IllegalArgumentException();
        }
    }

    private static void state(boolean good) {
        if (!good) {
            throw new IllegalStateException();
        }
    }

    private boolean cell(int cell) {
        return 0 <= cell && cell < now.width * now.height;
    }

    private boolean number(int ship) {
        return 0 <= ship && ship < now.ships.size();
    }

    private int get(int ship, String what) {
        return now.ships.get(ship).get(what);
    }

    private void set(int ship, String what, int value) {
        now.ships.get(ship).put(what, value);
    }

    private void lower(int ship, String what, int by, int least) {
        set(ship, what, Math.max(least, get(ship, what) - by));
    }

    private boolean afloat(int ship) {
        return get(ship, "hull") > 0;
    }

    private int step(int cell, int direction) {
        int row = cell / now.width + ROW[(direction % 6 + 6) % 6];
        int column = cell % now.width + COLUMN[(direction % 6 + 6) % 6];
        boolean on = 0 <= row && row < now.height && 0 <= column && column < now.width;
        return on ? row * now.width + column : -1;
    }

    private int shipAt(int cell) {
        for (int i = 0; i < now.ships.size(); i++) {
            if (afloat(i) && get(i, "cell") == cell) {
                return i;
            }
        }
        return -1;
    }

    private boolean free(int cell) {
        return cell >= 0 && !now.rocks.contains(cell) && shipAt(cell) < 0;
    }

    private static int angle(int heading, int wind) {
        for (int by = 0; by <= 3; by++) {
            if ((heading + by) % 6 == wind || (wind + by) % 6 == heading) {
                return by;
            }
        }
        throw new AssertionError();
    }

    private int speed(int ship, int wind) {
        int factor = List.of(2, 3, 1, 0).get(angle(get(ship, "heading"), wind));
        return (factor * now.strength * get(ship, "sails") + 19) / 20;
    }

    private void ready(int ship) {
        int speed = speed(ship, now.wind);
        set(ship, "points", speed == 0 && get(ship, "sails") > 0 ? 1 : speed);
        set(ship, "way", 0);
        set(ship, "boarded", 0);
    }

    int begin(int columns, int rows) {
        argument(4 <= columns && columns <= 12 && 4 <= rows && rows <= 12);
        int before = now.ships.size();
        save();
        now = new State();
        now.width = columns;
        now.height = rows;
        return before;
    }

    int setRock(int cell, boolean rock) {
        bounds(cell(cell));
        state(shipAt(cell) < 0);
        save();
        boolean was = now.rocks.contains(cell);
        if (rock) {
            now.rocks.add(cell);
        } else {
            now.rocks.remove(cell);
        }
        return was ? 1 : 0;
    }

    int setWind(int direction, int strength) {
        argument(0 <= direction && direction <= 5 && 0 <= strength && strength <= 3);
        save();
        int before = now.wind;
        now.wind = direction;
        now.strength = strength;
        return before;
    }

    int addShip(int side, int cell, int heading, int hull, int guns, int crew) {
        bounds(cell(cell));
        argument(side == 0 || side == 1);
        argument(0 <= heading && heading <= 5);
        argument(1 <= hull && hull <= 60 && 0 <= guns && guns <= 12 && 1 <= crew && crew <= 60);
        state(now.ships.size() < 8 && free(cell));
        save();
        Map<String, Integer> s = new HashMap<>();
        int[] values = {side, cell, heading, hull, 20, guns, guns, crew, 0, 0, 0, -1};
        for (int i = 0; i < ABOUT.length; i++) {
            s.put(ABOUT[i], values[i]);
        }
        s.put("first", crew);
        now.ships.add(s);
        ready(now.ships.size() - 1);
        return now.ships.size() - 1;
    }

    int value(int what) {
        argument(0 <= what && what <= 9);
        int[] afloat = new int[2];
        for (int i = 0; i < now.ships.size(); i++) {
            if (afloat(i)) {
                afloat[get(i, "side")]++;
            }
        }
        int last = now.rocks.isEmpty() ? -1 : now.rocks.last();
        return List.of(now.width, now.height, now.wind, now.strength, now.round, now.ships.size(),
                afloat[0], afloat[1], now.rocks.size(), last).get(what);
    }

    int ship(int ship, int what) {
        bounds(number(ship));
        argument(0 <= what && what <= 14);
        if (what == 1 && !afloat(ship)) {
            return -1;
        }
        if (what < 12) {
            return get(ship, ABOUT[what]);
        }
        if (what == 12) {
            return speed(ship, now.wind);
        }
        return what == 13 ? angle(get(ship, "heading"), now.wind) : get(ship, "boarded");
    }

    int at(int cell) {
        bounds(cell(cell));
        return now.rocks.contains(cell) ? -2 : shipAt(cell);
    }

    /** {k, i, j} of the document, or null if both are the same. */
    private int[] route(int from, int to) {
        int rows = to / now.width - from / now.width;
        int columns = to % now.width - from % now.width;
        for (int k = 0; k < 6; k++) {
            int n = (k + 1) % 6;
            for (int i = 1; i <= 24; i++) {
                for (int j = 0; j <= 24; j++) {
                    if (i * ROW[k] + j * ROW[n] == rows && i * COLUMN[k] + j * COLUMN[n] == columns) {
                        return new int[] {k, i, j};
                    }
                }
            }
        }
        return null;
    }

    int distance(int from, int to) {
        bounds(cell(from));
        bounds(cell(to));
        int[] r = route(from, to);
        return r == null ? 0 : r[1] + r[2];
    }

    int bearing(int from, int to) {
        bounds(cell(from));
        bounds(cell(to));
        int[] r = route(from, to);
        return r == null ? -1 : r[2] == 0 ? r[0] + 10 : r[0];
    }

    private boolean sails(int ship) {
        return afloat(ship) && get(ship, "sails") > 0 && get(ship, "partner") < 0 && get(ship, "points") > 0;
    }

    private boolean tryAhead(int ship, boolean really) {
        int heading = get(ship, "heading");
        int next = step(get(ship, "cell"), heading);
        if (!sails(ship) || angle(heading, now.wind) == 3 || !free(next)) {
            return false;
        }
        if (really) {
            set(ship, "cell", next);
            set(ship, "way", 1);
            lower(ship, "points", 1, 0);
        }
        return true;
    }

    private boolean tryTurn(int ship, boolean right, boolean really) {
        int heading = (get(ship, "heading") + (right ? 1 : 5)) % 6;
        if (!sails(ship) || angle(heading, now.wind) == 3 && get(ship, "way") == 0) {
            return false;
        }
        if (really) {
            set(ship, "heading", heading);
            set(ship, "way", 0);
            lower(ship, "points", 1, 0);
        }
        return true;
    }

    int ahead(int ship) {
        bounds(number(ship));
        state(tryAhead(ship, false));
        save();
        tryAhead(ship, true);
        return get(ship, "cell");
    }

    int turn(int ship, boolean right) {
        bounds(number(ship));
        state(tryTurn(ship, right, false));
        save();
        tryTurn(ship, right, true);
        return get(ship, "heading");
    }

    int endRound() {
        save();
        return finish();
    }

    private int finish() {
        int drifted = 0;
        for (int i = 0; i < now.ships.size(); i++) {
            int next = step(get(i, "cell"), now.wind);
            if (afloat(i) && get(i, "sails") == 0 && get(i, "partner") == -1 && now.strength > 0 && free(next)) {
                set(i, "cell", next);
                drifted++;
            }
        }
        now.round++;
        for (int i = 0; i < now.ships.size(); i++) {
            lower(i, "wait0", 1, 0);
            lower(i, "wait1", 1, 0);
            ready(i);
        }
        return drifted;
    }

    /** 0 left, 1 right, -1 neither: the arc of a ship in which another one lies. */
    private int arc(int ship, int other) {
        int[] r = route(get(ship, "cell"), get(other, "cell"));
        int h = get(ship, "heading");
        if (r[0] == (h + 1) % 6 || r[0] == (h + 2) % 6 && r[2] == 0) {
            return 1;
        }
        return r[0] == (h + 4) % 6 || r[0] == (h + 5) % 6 && r[2] == 0 ? 0 : -1;
    }

    private int forceOf(int ship, int guns, int target) {
        if (!afloat(ship) || !afloat(target) || get(ship, "side") == get(target, "side")) {
            return 0;
        }
        int[] there = route(get(ship, "cell"), get(target, "cell"));
        int[] back = route(get(target, "cell"), get(ship, "cell"));
        if (there[1] + there[2] > 6 || arc(ship, target) != guns) {
            return 0;
        }
        if (there[2] == 0) {
            for (int c = step(get(ship, "cell"), there[0]); c != get(target, "cell"); c = step(c, there[0])) {
                if (!free(c)) {
                    return 0;
                }
            }
        }
        boolean rakes = back[2] == 0 && back[0] % 3 == get(target, "heading") % 3;
        return get(ship, "guns" + guns) * (7 - there[1] - there[2]) * (rakes ? 2 : 1);
    }

    int force(int ship, boolean right, int target) {
        bounds(number(ship) && number(target));
        argument(ship != target);
        return forceOf(ship, right ? 1 : 0, target);
    }

    int fire(int ship, boolean right, int target, int aim) {
        bounds(number(ship) && number(target));
        argument(ship != target && 0 <= aim && aim <= 2);
        int guns = right ? 1 : 0;
        int force = forceOf(ship, guns, target);
        state(force > 0 && get(ship, "wait" + guns) == 0);
        state(aim < 2 || distance(get(ship, "cell"), get(target, "cell")) <= 2);
        save();
        String part = List.of("hull", "sails", "crew").get(aim);
        int before = get(target, part);
        if (aim == 0 && arc(target, ship) >= 0) {
            lower(target, "guns" + arc(target, ship), force / 12, 0);
        }
        lower(target, part, force / List.of(4, 6, 5).get(aim), aim == 2 ? 1 : 0);
        if (!afloat(target)) {
            release(target);
        }
        set(ship, "wait" + guns, 2 * get(ship, "crew") >= get(ship, "first") ? 1 : 2);
        return before - get(target, part);
    }

    private void release(int ship) {
        for (int i = 0; i < now.ships.size(); i++) {
            if (get(i, "partner") == ship) {
                set(i, "partner", -1);
            }
        }
        set(ship, "partner", -1);
    }

    int grapple(int ship, int target) {
        bounds(number(ship) && number(target));
        argument(ship != target);
        state(afloat(ship) && afloat(target) && get(ship, "side") + get(target, "side") == 1);
        state(get(ship, "partner") == -1 && get(target, "partner") == -1);
        state(distance(get(ship, "cell"), get(target, "cell")) == 1);
        save();
        set(ship, "partner", target);
        set(target, "partner", ship);
        int count = 0;
        for (int i = 0; i < now.ships.size(); i++) {
            count += get(i, "partner") == -1 ? 0 : 1;
        }
        return count;
    }

    int cut(int ship) {
        bounds(number(ship));
        state(get(ship, "partner") != -1);
        save();
        int other = get(ship, "partner");
        release(ship);
        return other;
    }

    int board(int ship) {
        bounds(number(ship));
        state(get(ship, "partner") != -1 && get(ship, "boarded") == 0);
        save();
        int other = get(ship, "partner");
        int a = get(ship, "crew");
        int b = get(other, "crew");
        set(ship, "boarded", 1);
        lower(ship, "crew", (b + 3) / 4, 1);
        lower(other, "crew", (a + 2) / 3, -1000);
        if (get(other, "crew") > 0) {
            return 0;
        }
        int c = get(ship, "crew");
        int over = (c + 3) / 4 < c - 1 ? (c + 3) / 4 : c - 1;
        lower(ship, "crew", over, 0);
        set(other, "crew", over == 0 ? 1 : over);
        set(other, "side", get(ship, "side"));
        release(ship);
        return 1;
    }

    /** The greatest number of points left by cell, found by doing the moves and taking them back. */
    private Map<Integer, Integer> reachable(int ship) {
        Map<Integer, Integer> best = new HashMap<>();
        if (!afloat(ship)) {
            return best;
        }
        Map<String, Integer> start = new HashMap<>(now.ships.get(ship));
        Set<Map<String, Integer>> seen = new HashSet<>();
        Deque<Map<String, Integer>> open = new ArrayDeque<>();
        open.push(start);
        seen.add(start);
        while (!open.isEmpty()) {
            Map<String, Integer> here = open.pop();
            best.merge(here.get("cell"), here.get("points"), Math::max);
            for (int move = 0; move < 3; move++) {
                now.ships.set(ship, new HashMap<>(here));
                boolean done = move == 0 ? tryAhead(ship, true) : tryTurn(ship, move == 1, true);
                if (done && seen.add(now.ships.get(ship))) {
                    open.push(now.ships.get(ship));
                }
            }
        }
        now.ships.set(ship, start);
        return best;
    }

    int reach(int ship) {
        bounds(number(ship));
        return reachable(ship).size();
    }

    int pointsAt(int ship, int cell) {
        bounds(number(ship) && cell(cell));
        return reachable(ship).getOrDefault(cell, -1);
    }

    int bestShot(int ship) {
        bounds(number(ship));
        int best = -1;
        int most = 0;
        for (int code = 2 * now.ships.size() - 1; code >= 0; code--) {
            int force = code / 2 == ship ? 0 : forceOf(ship, code % 2, code / 2);
            if (force > 0 && force >= most) {
                most = force;
                best = code;
            }
        }
        return best;
    }

    int bestWind(int ship) {
        bounds(number(ship));
        int most = 0;
        for (int wind = 0; wind < 6; wind++) {
            most = Math.max(most, speed(ship, wind));
        }
        int wind = 0;
        while (speed(ship, wind) < most) {
            wind++;
        }
        return wind;
    }

    double balance(int side) {
        argument(side == 0 || side == 1);
        int[] sum = new int[2];
        for (int i = 0; i < now.ships.size(); i++) {
            if (afloat(i)) {
                sum[get(i, "side")] += get(i, "hull") + get(i, "crew");
            }
        }
        return sum[0] + sum[1] == 0 ? 0.5 : (double) sum[side] / (double) (sum[0] + sum[1]);
    }

    int append(int value) {
        argument(0 <= value && value <= 127);
        state(text.length() < 150);
        text += (char) value;
        return text.length();
    }

    int clearText() {
        int before = text.length();
        text = "";
        return before;
    }

    int carryOut() {
        if (!ORDERS.matcher(text).matches()) {
            int good = 0;
            while (good < text.length() && ORDERS_BEGUN.matcher(text.substring(0, good + 1)).matches()) {
                good++;
            }
            return -10 - good;
        }
        save();
        int done = 0;
        for (String order : text.isEmpty() ? new String[0] : text.split(";")) {
            if (!obey(order)) {
                break;
            }
            done++;
        }
        return done;
    }

    private boolean obey(String order) {
        if (order.equals("e")) {
            finish();
            return true;
        }
        if (order.startsWith("w")) {
            now.wind = Integer.parseInt(order.substring(1));
            return true;
        }
        int ship = Integer.parseInt(order.substring(0, 1));
        if (!number(ship)) {
            return false;
        }
        return order.endsWith("a") ? tryAhead(ship, true) : tryTurn(ship, order.endsWith("r"), true);
    }

    int undo() {
        state(!saved.isEmpty());
        now = saved.removeLast();
        return saved.size();
    }

    long digest() {
        List<Integer> values = new ArrayList<>(List.of(text.length()));
        for (int what = 0; what <= 9; what++) {
            values.add(value(what));
        }
        for (int i = 0; i < now.ships.size(); i++) {
            for (int what = 0; what <= 14; what++) {
                values.add(ship(i, what));
            }
            values.add(reach(i));
        }
        for (int cell = 0; cell < now.width * now.height; cell++) {
            values.add(at(cell));
        }
        values.add(saved.size());
        long h = 3347;
        for (int v : values) {
            h = 31 * h + v;
        }
        return h;
    }
}
