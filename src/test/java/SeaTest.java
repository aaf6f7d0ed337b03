/** Promises 1 to 10: the sea, its rocks, its wind, its ships, and what can be asked of them. */
public final class SeaTest {
    private static final Class<?> BOUNDS = IndexOutOfBoundsException.class;
    private static final Class<?> ARGUMENT = IllegalArgumentException.class;
    private static final Class<?> STATE = IllegalStateException.class;

    public static void main(String[] args) {
        newObject();
        begin();
        beginRefused();
        setRock();
        setWind();
        addShip();
        addShipRefused();
        value();
        ship();
        at();
        distance();
        bearing();
        Due.finish("SeaTest");
    }

    private static void newObject() {
        HexBroadsides x = new HexBroadsides();
        int[] due = {10, 8, 0, 2, 1, 0, 0, 0, 0, -1};
        for (int what = 0; what < due.length; what++) {
            Due.is("new: value(" + what + ")", x.value(what), due[what]);
        }
        for (int cell = 0; cell < 80; cell++) {
            Due.is("new: at(" + cell + ")", x.at(cell), HexBroadsides.NONE);
        }
        Due.refused(x, "new: at(80)", BOUNDS, () -> x.at(80));
        Due.refused(x, "new: undo()", STATE, () -> x.undo());
        Due.is("new: clearText()", x.clearText(), 0);
        Due.is("NONE", HexBroadsides.NONE, -1);
    }

    private static void begin() {
        HexBroadsides x = new HexBroadsides();
        x.setRock(3, true);
        x.setWind(4, 1);
        x.addShip(0, 5, 1, 10, 2, 10);
        x.addShip(1, 6, 1, 10, 2, 10);
        x.endRound();
        Due.append(x, "0a;");
        String before = Due.portrait(x);
        Due.is("begin(12, 4)", x.begin(12, 4), 2);
        int[] due = {12, 4, 0, 2, 1, 0, 0, 0, 0, -1};
        for (int what = 0; what < due.length; what++) {
            Due.is("begun: value(" + what + ")", x.value(what), due[what]);
        }
        Due.is("begun: at(3)", x.at(3), -1);
        Due.is("begun: at(47)", x.at(47), -1);
        Due.refused(x, "begun: at(48)", BOUNDS, () -> x.at(48));
        Due.refused(x, "begun: ship(0, 0)", BOUNDS, () -> x.ship(0, 0));
        x.undo();
        Due.isTrue("begin is undone whole", before.equals(Due.portrait(x)));
        Due.is("begin keeps the text", x.clearText(), 3);
        Due.is("begin(4, 12)", x.begin(4, 12), 2);
        Due.is("begin(12, 12)", x.begin(12, 12), 0);
        Due.is("at(143)", x.at(143), -1);
        Due.is("begin(4, 4)", x.begin(4, 4), 0);
        Due.is("at(15)", x.at(15), -1);
        Due.refused(x, "at(16)", BOUNDS, () -> x.at(16));
        shipsOfTheOldSeaAreForgotten();
    }

    private static void shipsOfTheOldSeaAreForgotten() {
        HexBroadsides x = new HexBroadsides();
        x.addShip(0, 44, 0, 60, 12, 60);
        x.addShip(1, 54, 3, 60, 12, 60);
        x.addShip(1, 34, 3, 60, 12, 60);
        x.fire(0, true, 1, 2);
        x.fire(0, false, 2, 2);
        x.fire(1, true, 0, 1);
        x.grapple(0, 1);
        x.board(0);
        x.begin(10, 8);
        x.addShip(1, 20, 2, 7, 3, 9);
        int[] due = {1, 20, 2, 7, 20, 3, 3, 9, 2, 0, 0, -1, 2, 2, 0};
        for (int what = 0; what < due.length; what++) {
            Due.is("begun again: ship(0, " + what + ")", x.ship(0, what), due[what]);
        }
        Due.is("begun again: at(44)", x.at(44), -1);
    }

    private static void beginRefused() {
        HexBroadsides x = new HexBroadsides();
        int[][] wrong = {{3, 4}, {13, 4}, {4, 3}, {4, 13}, {-1, 8}, {8, Integer.MIN_VALUE},
            {Integer.MAX_VALUE, 8}, {0, 0}};
        for (int[] w : wrong) {
            Due.refused(x, "begin(" + w[0] + ", " + w[1] + ")", ARGUMENT, () -> x.begin(w[0], w[1]));
        }
    }

    private static void setRock() {
        HexBroadsides x = new HexBroadsides();
        Due.is("setRock(79, true)", x.setRock(79, true), 0);
        Due.is("setRock(79, true) again", x.setRock(79, true), 1);
        Due.is("at(79)", x.at(79), -2);
        Due.is("setRock(79, false)", x.setRock(79, false), 1);
        Due.is("setRock(79, false) again", x.setRock(79, false), 0);
        Due.is("at(79) then", x.at(79), -1);
        Due.is("undo() of a call that changed nothing", x.undo(), 3);
        Due.is("at(79) still", x.at(79), -1);
        x.undo();
        Due.is("at(79) undone", x.at(79), -2);
        Due.refused(x, "setRock(-1, true)", BOUNDS, () -> x.setRock(-1, true));
        Due.refused(x, "setRock(80, true)", BOUNDS, () -> x.setRock(80, true));
        x.addShip(0, 44, 0, 12, 12, 30);
        x.addShip(1, 54, 3, 12, 0, 30);
        Due.refused(x, "setRock under a ship", STATE, () -> x.setRock(54, true));
        Due.refused(x, "setRock(false) under a ship", STATE, () -> x.setRock(54, false));
        x.fire(0, true, 1, 0);
        Due.is("the target has sunk", x.ship(1, 3), 0);
        Due.is("setRock where a ship has sunk", x.setRock(54, true), 0);
        Due.is("at(54)", x.at(54), -2);
    }

    private static void setWind() {
        HexBroadsides x = new HexBroadsides();
        x.addShip(0, 44, 1, 10, 2, 10);
        Due.is("points before", x.ship(0, 8), 6);
        Due.is("setWind(4, 3)", x.setWind(4, 3), 0);
        Due.is("setWind(5, 0)", x.setWind(5, 0), 4);
        Due.is("the direction", x.value(2), 5);
        Due.is("the strength", x.value(3), 0);
        Due.is("points stay", x.ship(0, 8), 6);
        Due.is("the speed follows", x.ship(0, 12), 0);
        Due.is("undo()", x.undo(), 2);
        Due.is("the direction undone", x.value(2), 4);
        Due.is("the strength undone", x.value(3), 3);
        int[][] wrong = {{-1, 0}, {6, 0}, {0, -1}, {0, 4}, {Integer.MIN_VALUE, 2}};
        for (int[] w : wrong) {
            Due.refused(x, "setWind(" + w[0] + ", " + w[1] + ")", ARGUMENT, () -> x.setWind(w[0], w[1]));
        }
    }

    private static void addShip() {
        HexBroadsides x = new HexBroadsides();
        Due.is("addShip", x.addShip(1, 79, 5, 60, 12, 60), 0);
        int[] due = {1, 79, 5, 60, 20, 12, 12, 60, 6, 0, 0, -1, 6, 1, 0};
        for (int what = 0; what < due.length; what++) {
            Due.is("added: ship(0, " + what + ")", x.ship(0, what), due[what]);
        }
        Due.is("addShip of the least", x.addShip(0, 0, 3, 1, 0, 1), 1);
        int[] least = {0, 0, 3, 1, 20, 0, 0, 1, 1, 0, 0, -1, 0, 3, 0};
        for (int what = 0; what < least.length; what++) {
            Due.is("added: ship(1, " + what + ")", x.ship(1, what), least[what]);
        }
        x.turn(0, false);
        x.ahead(0);
        int points = x.ship(0, 8);
        x.addShip(0, 1, 0, 1, 0, 1);
        Due.is("another's points stay", x.ship(0, 8), points);
        x.undo();
        Due.is("ships after undo()", x.value(5), 2);
        for (int i = 2; i < 8; i++) {
            Due.is("addShip " + i, x.addShip(0, 10 + i, 0, 1, 0, 1), i);
        }
        Due.refused(x, "a ninth ship", STATE, () -> x.addShip(0, 20, 0, 1, 0, 1));
    }

    private static void addShipRefused() {
        HexBroadsides x = new HexBroadsides();
        x.setRock(5, true);
        x.addShip(0, 6, 0, 1, 0, 1);
        int[][] arguments = {{-1, 0, 0, 1, 0, 1}, {2, 0, 0, 1, 0, 1}, {0, 0, -1, 1, 0, 1},
            {0, 0, 6, 1, 0, 1}, {0, 0, 0, 0, 0, 1}, {0, 0, 0, 61, 0, 1}, {0, 0, 0, 1, -1, 1},
            {0, 0, 0, 1, 13, 1}, {0, 0, 0, 1, 0, 0}, {0, 0, 0, 1, 0, 61}, {2, 5, 0, 1, 0, 1},
            {2, 6, 0, 1, 0, 1}};
        for (int[] a : arguments) {
            Due.refused(x, "addShip " + java.util.Arrays.toString(a), ARGUMENT,
                    () -> x.addShip(a[0], a[1], a[2], a[3], a[4], a[5]));
        }
        Due.refused(x, "addShip off the sea", BOUNDS, () -> x.addShip(0, 80, 0, 1, 0, 1));
        Due.refused(x, "addShip at -1", BOUNDS, () -> x.addShip(0, -1, 0, 1, 0, 1));
        Due.refused(x, "addShip off the sea, all wrong", BOUNDS, () -> x.addShip(2, 80, 9, 0, 99, 0));
        Due.refused(x, "addShip on a rock", STATE, () -> x.addShip(0, 5, 0, 1, 0, 1));
        Due.refused(x, "addShip on a ship", STATE, () -> x.addShip(0, 6, 0, 1, 0, 1));
    }

    private static void value() {
        HexBroadsides x = new HexBroadsides();
        x.begin(11, 9);
        x.setWind(3, 1);
        x.endRound();
        x.addShip(0, 44, 0, 12, 12, 30);
        x.addShip(1, 55, 3, 12, 0, 30);
        x.addShip(1, 1, 3, 12, 0, 30);
        x.addShip(1, 2, 3, 12, 0, 30);
        x.setRock(98, true);
        x.setRock(7, true);
        x.setRock(50, true);
        int[] due = {11, 9, 3, 1, 2, 4, 1, 3, 3, 98};
        for (int what = 0; what < due.length; what++) {
            Due.is("value(" + what + ")", x.value(what), due[what]);
        }
        x.fire(0, true, 1, 0);
        Due.is("a sunk ship still counts", x.value(5), 4);
        Due.is("but not as afloat", x.value(7), 2);
        x.setRock(98, false);
        Due.is("the last rock then", x.value(9), 50);
        Due.is("the rocks then", x.value(8), 2);
        lastRocks();
        Due.refused(x, "value(-1)", ARGUMENT, () -> x.value(-1));
        Due.refused(x, "value(10)", ARGUMENT, () -> x.value(10));
    }

    private static void lastRocks() {
        HexBroadsides x = new HexBroadsides();
        x.begin(12, 12);
        x.setRock(0, true);
        Due.is("the first cell as last rock", x.value(9), 0);
        x.setRock(143, true);
        Due.is("the last cell as last rock", x.value(9), 143);
        Due.is("both rocks", x.value(8), 2);
        x.setRock(143, false);
        x.setRock(142, true);
        Due.is("the last cell but one as last rock", x.value(9), 142);
    }

    private static void ship() {
        HexBroadsides x = new HexBroadsides();
        Due.refused(x, "ship(0, 0) without ships", BOUNDS, () -> x.ship(0, 0));
        x.addShip(0, 44, 2, 12, 12, 30);
        Due.refused(x, "ship(-1, 99)", BOUNDS, () -> x.ship(-1, 99));
        Due.refused(x, "ship(1, 99)", BOUNDS, () -> x.ship(1, 99));
        Due.refused(x, "ship(0, -1)", ARGUMENT, () -> x.ship(0, -1));
        Due.refused(x, "ship(0, 15)", ARGUMENT, () -> x.ship(0, 15));
        anglesAndSpeeds(x);
        sunkShip();
    }

    private static void anglesAndSpeeds(HexBroadsides x) {
        int[] angles = {2, 1, 0, 1, 2, 3};
        int[] factors = {1, 3, 2, 3, 1, 0};
        for (int wind = 0; wind < 6; wind++) {
            // The heading is 2; a wind from each side of it is met once.
            int turned = wind;
            for (int strength = 0; strength <= 3; strength++) {
                x.setWind(wind, strength);
                Due.is("angle in wind " + wind, x.ship(0, 13), angles[turned]);
                Due.is("speed in wind " + wind + "/" + strength, x.ship(0, 12), factors[turned] * strength);
            }
        }
        HexBroadsides y = new HexBroadsides();
        y.addShip(0, 44, 0, 12, 3, 30);
        y.addShip(1, 54, 2, 12, 2, 30);
        Due.is("force / 6 of the sails", y.fire(0, true, 1, 1), 3);
        y.setWind(1, 1);
        Due.is("(3 * 1 * 17 + 19) / 20", y.ship(1, 12), 3);
        y.setWind(0, 1);
        Due.is("(1 * 1 * 17 + 19) / 20", y.ship(1, 12), 1);
        y.setWind(2, 3);
        Due.is("(2 * 3 * 17 + 19) / 20", y.ship(1, 12), 6);
    }

    private static void sunkShip() {
        HexBroadsides x = new HexBroadsides();
        x.addShip(0, 44, 0, 12, 12, 30);
        x.addShip(1, 54, 2, 12, 12, 30);
        x.fire(1, true, 0, 2);
        x.fire(0, true, 1, 0);
        int[] due = {1, -1, 2, 0, 20, 12, 6, 30, 2, 0, 1, -1, 2, 2, 0};
        for (int what = 0; what < due.length; what++) {
            Due.is("sunk: ship(1, " + what + ")", x.ship(1, what), due[what]);
        }
        x.setWind(1, 3);
        x.endRound();
        Due.is("a sunk ship's speed", x.ship(1, 12), 9);
        Due.is("a sunk ship's points", x.ship(1, 8), 9);
        Due.is("a sunk ship's wait", x.ship(1, 10), 0);
        Due.is("a sunk ship's angle", x.ship(1, 13), 1);
    }

    private static void at() {
        HexBroadsides x = new HexBroadsides();
        x.addShip(0, 44, 0, 12, 12, 30);
        x.addShip(1, 54, 2, 12, 12, 30);
        x.setRock(0, true);
        Due.is("at(44)", x.at(44), 0);
        Due.is("at(54)", x.at(54), 1);
        Due.is("at(0)", x.at(0), -2);
        Due.is("at(1)", x.at(1), -1);
        x.fire(0, true, 1, 0);
        Due.is("at(54) behind a sinking", x.at(54), -1);
        x.ahead(0);
        Due.is("at(44) behind a move", x.at(44), -1);
        Due.is("at(45) behind a move", x.at(45), 0);
        Due.refused(x, "at(-1)", BOUNDS, () -> x.at(-1));
        Due.refused(x, "at(80)", BOUNDS, () -> x.at(80));
    }

    private static void distance() {
        HexBroadsides x = new HexBroadsides();
        x.setRock(45, true);
        int[][] due = {{44, 44, 0}, {44, 45, 1}, {44, 46, 2}, {44, 54, 1}, {44, 53, 1}, {44, 43, 1},
            {44, 34, 1}, {44, 35, 1}, {44, 55, 2}, {44, 33, 2}, {44, 63, 2}, {44, 62, 2}, {44, 52, 2},
            {0, 79, 16}, {79, 0, 16}, {9, 70, 9}, {70, 9, 9}, {0, 9, 9}, {0, 70, 7}, {20, 35, 6}};
        for (int[] d : due) {
            Due.is("distance(" + d[0] + ", " + d[1] + ")", x.distance(d[0], d[1]), d[2]);
        }
        Due.refused(x, "distance(-1, 0)", BOUNDS, () -> x.distance(-1, 0));
        Due.refused(x, "distance(80, 0)", BOUNDS, () -> x.distance(80, 0));
        Due.refused(x, "distance(0, -1)", BOUNDS, () -> x.distance(0, -1));
        Due.refused(x, "distance(0, 80)", BOUNDS, () -> x.distance(0, 80));
    }

    /** Each cell is built from i moves in k and j moves in k + 1, as the document tells it. */
    private static void bearing() {
        HexBroadsides x = new HexBroadsides();
        x.begin(12, 12);
        int[] rowStep = {0, 1, 1, 0, -1, -1};
        int[] columnStep = {1, 0, -1, -1, 0, 1};
        int from = 5 * 12 + 6;
        int seen = 0;
        for (int k = 0; k < 6; k++) {
            int next = (k + 1) % 6;
            for (int i = 1; i < 12; i++) {
                for (int j = 0; j < 12; j++) {
                    int row = 5 + i * rowStep[k] + j * rowStep[next];
                    int column = 6 + i * columnStep[k] + j * columnStep[next];
                    if (row < 0 || row >= 12 || column < 0 || column >= 12) {
                        continue;
                    }
                    seen++;
                    int to = row * 12 + column;
                    Due.is("bearing(" + from + ", " + to + ")", x.bearing(from, to), j == 0 ? k + 10 : k);
                    Due.is("distance(" + from + ", " + to + ")", x.distance(from, to), i + j);
                }
            }
        }
        Due.is("the cells with a bearing", seen, 143);
        Due.is("bearing of the same", x.bearing(from, from), HexBroadsides.NONE);
        Due.refused(x, "bearing(-1, 0)", BOUNDS, () -> x.bearing(-1, 0));
        Due.refused(x, "bearing(144, 0)", BOUNDS, () -> x.bearing(144, 0));
        Due.refused(x, "bearing(0, -1)", BOUNDS, () -> x.bearing(0, -1));
        Due.refused(x, "bearing(0, 144)", BOUNDS, () -> x.bearing(0, 144));
    }
}
