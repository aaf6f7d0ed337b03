import java.util.ArrayList;
import java.util.List;
import java.util.Random;
import java.util.TreeMap;

/**
 * Long runs of calls, the same ones each time, in which the class has to answer as PlainModel
 * does: each answer, each exception, and the digest behind each call. Each object is called
 * 512 times.
 */
public final class RunsTest {
    private static final int RUNS = 400;
    /** The document promises nothing about an object behind its call of this number. */
    private static final int CALLS = 512;

    private final Random random;
    private final HexBroadsides x = new HexBroadsides();
    private final PlainModel model = new PlainModel();
    private final List<String> calls = new ArrayList<>();
    private static final TreeMap<String, Integer> answers = new TreeMap<>();

    private RunsTest(long seed) {
        random = new Random(seed);
    }

    public static void main(String[] args) {
        for (int run = 0; run < RUNS; run++) {
            if (!new RunsTest(run).goesWell()) {
                break;
            }
        }
        int kinds = 0;
        for (String kind : answers.keySet()) {
            if (kind.endsWith("something")) {
                kinds++;
                Due.isTrue(kind + " often enough in the runs", answers.get(kind) >= 40);
            }
        }
        Due.is("methods that answer something in the runs", kinds, 27);
        Due.finish("RunsTest");
    }

    private boolean goesWell() {
        boolean good = true;
        if (random.nextInt(4) > 0) {
            good = begin();
        }
        for (int i = 0; good && i < 3 + random.nextInt(6); i++) {
            good = addShip();
        }
        while (good && calls.size() < CALLS) {
            good = someCall() && same("digest", "", x::digest, model::digest);
        }
        return good;
    }

    private boolean same(String name, String arguments, Due.Call call, Due.Call dueCall) {
        if (calls.size() >= CALLS) {
            return true;
        }
        calls.add(name + arguments);
        String got = Due.answerOf(call);
        String due = Due.answerOf(dueCall);
        if (!due.startsWith("throws.")) {
            String kind = due.equals("0") || due.equals("-1") ? " answered nothing" : " answered something";
            answers.merge(name + kind, 1, Integer::sum);
        }
        boolean good = got.equals(due);
        Due.note(good, calls + " answered " + got + ", due is " + due);
        return good;
    }

    /** Mostly a number from 0 on that is below the bound, sometimes one a little outside. */
    private int below(int bound) {
        if (random.nextInt(40) == 0) {
            return random.nextBoolean() ? -1 - random.nextInt(2) : bound + random.nextInt(2);
        }
        return bound <= 0 ? 0 : random.nextInt(bound);
    }

    private int cell() {
        return below(model.value(0) * model.value(1));
    }

    private int ship() {
        return below(model.value(5));
    }

    /** A cell near the middle of the sea, so that ships meet. */
    private int middle() {
        int columns = model.value(0);
        int row = model.value(1) / 2 - 2 + random.nextInt(4);
        int column = columns / 2 - 2 + random.nextInt(4);
        return random.nextInt(6) == 0 ? cell() : row * columns + column;
    }

    private boolean begin() {
        int columns = 4 + below(random.nextBoolean() ? 3 : 9);
        int rows = 4 + below(random.nextBoolean() ? 3 : 9);
        return same("begin", "(" + columns + ", " + rows + ")",
                () -> x.begin(columns, rows), () -> model.begin(columns, rows));
    }

    private boolean addShip() {
        int[] a = {below(2), middle(), below(6), 1 + below(random.nextInt(3) == 0 ? 12 : 60), below(13),
            1 + below(random.nextInt(3) == 0 ? 6 : 60)};
        return same("addShip", java.util.Arrays.toString(a), () -> x.addShip(a[0], a[1], a[2], a[3], a[4], a[5]),
                () -> model.addShip(a[0], a[1], a[2], a[3], a[4], a[5]));
    }

    private boolean someCall() {
        int kind = random.nextInt(100);
        if (kind < 30) {
            return moves();
        }
        if (kind < 60) {
            return fights();
        }
        if (kind < 76) {
            return questions();
        }
        if (kind < 84) {
            return text();
        }
        return changes();
    }

    private boolean moves() {
        int ship = ship();
        boolean right = random.nextBoolean();
        switch (random.nextInt(7)) {
            case 0:
            case 1:
                return same("turn", "(" + ship + ", " + right + ")", () -> x.turn(ship, right),
                        () -> model.turn(ship, right));
            case 2:
            case 3:
                return same("endRound", "()", x::endRound, model::endRound);
            default:
                return same("ahead", "(" + ship + ")", () -> x.ahead(ship), () -> model.ahead(ship));
        }
    }

    private boolean fights() {
        int ship = ship();
        int best = ship >= 0 && ship < model.value(5) ? model.bestShot(ship) : -1;
        boolean take = best >= 0 && random.nextInt(5) > 0;
        int target = take ? best / 2 : ship();
        boolean right = take ? best % 2 == 1 : random.nextBoolean();
        int aim = below(3);
        switch (random.nextInt(8)) {
            case 0:
                return same("force", "(" + ship + ", " + right + ", " + target + ")",
                        () -> x.force(ship, right, target), () -> model.force(ship, right, target));
            case 1:
            case 2:
            case 3:
                return same("fire", "(" + ship + ", " + right + ", " + target + ", " + aim + ")",
                        () -> x.fire(ship, right, target, aim), () -> model.fire(ship, right, target, aim));
            case 4:
                return same("cut", "(" + ship + ")", () -> x.cut(ship), () -> model.cut(ship));
            case 5:
                return same("board", "(" + ship + ")", () -> x.board(ship), () -> model.board(ship));
            default:
                return same("grapple", "(" + ship + ", " + target + ")", () -> x.grapple(ship, target),
                        () -> model.grapple(ship, target));
        }
    }

    private boolean questions() {
        int ship = ship();
        int cell = cell();
        int other = cell();
        switch (random.nextInt(10)) {
            case 0:
                int what = below(10);
                return same("value", "(" + what + ")", () -> x.value(what), () -> model.value(what));
            case 1:
                int about = below(15);
                return same("ship", "(" + ship + ", " + about + ")", () -> x.ship(ship, about),
                        () -> model.ship(ship, about));
            case 2:
                return same("at", "(" + cell + ")", () -> x.at(cell), () -> model.at(cell));
            case 3:
                return same("distance", "(" + cell + ", " + other + ")", () -> x.distance(cell, other),
                        () -> model.distance(cell, other));
            case 4:
                return same("bearing", "(" + cell + ", " + other + ")", () -> x.bearing(cell, other),
                        () -> model.bearing(cell, other));
            case 5:
                return same("reach", "(" + ship + ")", () -> x.reach(ship), () -> model.reach(ship));
            case 6:
                return same("pointsAt", "(" + ship + ", " + cell + ")", () -> x.pointsAt(ship, cell),
                        () -> model.pointsAt(ship, cell));
            case 7:
                return same("bestShot", "(" + ship + ")", () -> x.bestShot(ship), () -> model.bestShot(ship));
            case 8:
                return same("bestWind", "(" + ship + ")", () -> x.bestWind(ship), () -> model.bestWind(ship));
            default:
                int side = below(2);
                return same("balance", "(" + side + ")", () -> x.balance(side), () -> model.balance(side));
        }
    }

    private boolean text() {
        if (random.nextInt(3) == 0) {
            return same("clearText", "()", x::clearText, model::clearText);
        }
        StringBuilder orders = new StringBuilder();
        for (int i = random.nextInt(6); i > 0; i--) {
            int kind = random.nextInt(8);
            orders.append(kind == 0 ? "e" : kind == 1 ? "w" + random.nextInt(6)
                    : Math.max(0, Math.min(9, ship())) + "aaalr".substring(kind % 5, kind % 5 + 1)).append(';');
        }
        if (random.nextInt(8) == 0 && orders.length() > 0) {
            orders.setCharAt(random.nextInt(orders.length()), (char) random.nextInt(128));
        }
        boolean good = true;
        for (int i = 0; good && i < orders.length(); i++) {
            int value = orders.charAt(i);
            good = same("append", "(" + value + ")", () -> x.append(value), () -> model.append(value));
        }
        return good && same("carryOut", "()", x::carryOut, model::carryOut);
    }

    private boolean changes() {
        int kind = random.nextInt(20);
        if (kind < 5) {
            int direction = below(6);
            int strength = below(4);
            return same("setWind", "(" + direction + ", " + strength + ")", () -> x.setWind(direction, strength),
                    () -> model.setWind(direction, strength));
        }
        if (kind < 10) {
            int cell = random.nextBoolean() ? cell() : middle();
            boolean rock = random.nextInt(3) == 0;
            return same("setRock", "(" + cell + ", " + rock + ")", () -> x.setRock(cell, rock),
                    () -> model.setRock(cell, rock));
        }
        if (kind < 14) {
            return addShip();
        }
        if (kind < 19) {
            return same("undo", "()", x::undo, model::undo);
        }
        return random.nextInt(3) > 0 || begin();
    }
}
