/** Promises 19 to 23: reach, pointsAt, bestShot, bestWind and balance. */
public final class WhatIfTest {
    private static final Class<?> BOUNDS = IndexOutOfBoundsException.class;
    private static final Class<?> ARGUMENT = IllegalArgumentException.class;

    public static void main(String[] args) {
        onePoint();
        threePoints();
        reachWithWay();
        reachRoundObstacles();
        reachAsPlainModel();
        reachOfShipsThatStay();
        reachRefused();
        bestShot();
        bestWind();
        balance();
        Due.finish("WhatIfTest");
    }

    private static void onePoint() {
        HexBroadsides x = new HexBroadsides();
        x.setWind(0, 0);
        x.addShip(0, 44, 0, 10, 2, 10);
        x.addShip(0, 24, 3, 10, 2, 10);
        Due.is("reach in a calm", x.reach(0), 2);
        Due.is("pointsAt the own cell", x.pointsAt(0, 44), 1);
        Due.is("pointsAt ahead", x.pointsAt(0, 45), 0);
        Due.is("pointsAt aside", x.pointsAt(0, 54), HexBroadsides.NONE);
        Due.is("reach in irons", x.reach(1), 1);
        x.ahead(0);
        Due.is("reach without points", x.reach(0), 1);
        Due.is("pointsAt the own cell without points", x.pointsAt(0, 45), 0);
        String before = Due.portrait(x);
        x.reach(0);
        x.pointsAt(1, 23);
        Due.isTrue("asking changes nothing", before.equals(Due.portrait(x)));
        Due.is("asking saves nothing", x.undo(), 3);
    }

    /** Heading 2 in the wind 0 of strength 3: three points, and no tack before it moves. */
    private static void threePoints() {
        HexBroadsides x = new HexBroadsides();
        x.setWind(0, 3);
        x.addShip(0, 44, 2, 10, 2, 10);
        Due.is("points", x.ship(0, 8), 3);
        // Ahead 53, 62, 71; turned left first 54, 64; ahead and then left 63;
        // turned left twice first 45.
        int[][] due = {{44, 3}, {53, 2}, {62, 1}, {71, 0}, {54, 1}, {64, 0}, {63, 0}, {45, 0}};
        Due.is("reach", x.reach(0), due.length);
        for (int[] d : due) {
            Due.is("pointsAt " + d[0], x.pointsAt(0, d[0]), d[1]);
        }
        Due.is("pointsAt behind", x.pointsAt(0, 43), -1);
        Due.is("pointsAt far", x.pointsAt(0, 0), -1);
    }

    /** From heading 2 through the wind to heading 4: only with way, and never ahead in between. */
    private static void reachWithWay() {
        HexBroadsides x = new HexBroadsides();
        x.setWind(3, 3);
        x.addShip(0, 44, 2, 10, 2, 10);
        Due.is("points", x.ship(0, 8), 9);
        x.setWind(0, 3);
        x.ahead(0);
        Due.is("a tack with way", x.pointsAt(0, 43), 5);
        Due.is("never ahead into the wind, but round", x.pointsAt(0, 52), 4);
        x.undo();
        Due.is("a tack behind one move", x.pointsAt(0, 43), 5);
        x.turn(0, false);
        x.turn(0, true);
        Due.is("a tack behind turns", x.pointsAt(0, 43), 3);
    }

    private static void reachRoundObstacles() {
        HexBroadsides x = new HexBroadsides();
        x.begin(4, 4);
        x.setWind(1, 3);
        x.addShip(0, 0, 0, 10, 2, 10);
        Due.is("points", x.ship(0, 8), 9);
        Due.is("reach of the whole sea", x.reach(0), 16);
        x.setRock(1, true);
        Due.is("a rock is not reached", x.pointsAt(0, 1), -1);
        Due.is("round the rock", x.pointsAt(0, 2), 3);
        x.addShip(1, 4, 0, 10, 2, 10);
        Due.is("shut in", x.reach(0), 1);
        Due.is("a ship's cell is not reached", x.pointsAt(0, 4), -1);
        x.undo();
        x.setRock(1, false);
        x.setRock(5, true);
        x.setRock(4, true);
        x.setRock(2, true);
        Due.is("one cell and the own", x.reach(0), 2);
    }

    /** All cells, headings and winds at the greatest strength, as the slow search answers. */
    private static void reachAsPlainModel() {
        for (int heading = 0; heading < 6; heading++) {
            for (int wind = 0; wind < 6; wind++) {
                reachAsPlainModel(heading, wind);
            }
        }
    }

    private static void reachAsPlainModel(int heading, int wind) {
        HexBroadsides x = new HexBroadsides();
        PlainModel model = new PlainModel();
        x.begin(12, 12);
        model.begin(12, 12);
        for (int rock : new int[] {64, 66, 79, 90, 91}) {
            x.setRock(rock, true);
            model.setRock(rock, true);
        }
        x.setWind((heading + 1) % 6, 3);
        model.setWind((heading + 1) % 6, 3);
        x.addShip(0, 78, heading, 10, 2, 10);
        model.addShip(0, 78, heading, 10, 2, 10);
        x.setWind(wind, 3);
        model.setWind(wind, 3);
        String what = " of heading " + heading + " in wind " + wind;
        Due.is("reach" + what, x.reach(0), model.reach(0));
        for (int cell = 0; cell < 144; cell++) {
            Due.is("pointsAt " + cell + what, x.pointsAt(0, cell), model.pointsAt(0, cell));
        }
    }

    private static void reachOfShipsThatStay() {
        HexBroadsides x = new HexBroadsides();
        x.addShip(0, 44, 0, 60, 12, 30);
        x.addShip(1, 54, 1, 36, 12, 30);
        x.addShip(1, 34, 1, 12, 12, 30);
        x.grapple(0, 1);
        Due.is("reach when grappled", x.reach(0), 1);
        Due.is("pointsAt the own cell when grappled", x.pointsAt(0, 44), 4);
        Due.is("pointsAt elsewhere when grappled", x.pointsAt(0, 45), -1);
        x.cut(0);
        x.fire(0, true, 1, 1);
        Due.is("reach without sails", x.reach(1), 1);
        Due.is("pointsAt the own cell without sails", x.pointsAt(1, 54), 6);
        x.fire(0, false, 2, 0);
        Due.is("reach when sunk", x.reach(2), 0);
        Due.is("pointsAt when sunk", x.pointsAt(2, 34), -1);
        Due.refused(x, "pointsAt when sunk, off the sea", BOUNDS, () -> x.pointsAt(2, 80));
        Due.is("the cell of a sunk ship", x.pointsAt(0, 34), 1);
    }

    private static void reachRefused() {
        HexBroadsides x = new HexBroadsides();
        Due.refused(x, "reach(0)", BOUNDS, () -> x.reach(0));
        Due.refused(x, "pointsAt(0, 0)", BOUNDS, () -> x.pointsAt(0, 0));
        x.addShip(0, 44, 0, 60, 12, 30);
        Due.refused(x, "reach(-1)", BOUNDS, () -> x.reach(-1));
        Due.refused(x, "reach(1)", BOUNDS, () -> x.reach(1));
        Due.refused(x, "pointsAt(-1, 0)", BOUNDS, () -> x.pointsAt(-1, 0));
        Due.refused(x, "pointsAt(1, 0)", BOUNDS, () -> x.pointsAt(1, 0));
        Due.refused(x, "pointsAt(0, -1)", BOUNDS, () -> x.pointsAt(0, -1));
        Due.refused(x, "pointsAt(0, 80)", BOUNDS, () -> x.pointsAt(0, 80));
    }

    private static void bestShot() {
        HexBroadsides x = new HexBroadsides();
        Due.refused(x, "bestShot(0)", BOUNDS, () -> x.bestShot(0));
        x.addShip(0, 44, 0, 60, 12, 30);
        Due.is("bestShot without targets", x.bestShot(0), HexBroadsides.NONE);
        x.addShip(0, 53, 0, 60, 12, 30);
        Due.is("bestShot at the own side", x.bestShot(0), HexBroadsides.NONE);
        x.addShip(1, 64, 0, 60, 12, 30);
        Due.is("bestShot", x.bestShot(0), 5);
        x.addShip(1, 24, 0, 60, 12, 30);
        Due.is("the lowest one of two", x.bestShot(0), 5);
        x.addShip(1, 34, 0, 60, 12, 30);
        Due.is("the nearest one", x.bestShot(0), 8);
        x.fire(0, false, 4, 1);
        Due.is("loaded or not", x.bestShot(0), 8);
        x.addShip(1, 63, 3, 60, 12, 30);
        Due.is("another one with less force", x.bestShot(0), 8);
        x.addShip(1, 54, 1, 60, 12, 30);
        Due.is("raking", x.bestShot(0), 13);
        Due.refused(x, "bestShot(-1)", BOUNDS, () -> x.bestShot(-1));
        Due.refused(x, "bestShot(7)", BOUNDS, () -> x.bestShot(7));
        HexBroadsides y = new HexBroadsides();
        y.addShip(0, 44, 0, 60, 12, 30);
        y.addShip(1, 24, 0, 60, 12, 30);
        y.addShip(1, 64, 0, 60, 12, 30);
        Due.is("the left guns at a lower number", y.bestShot(0), 2);
    }

    private static void bestWind() {
        HexBroadsides x = new HexBroadsides();
        Due.refused(x, "bestWind(0)", BOUNDS, () -> x.bestWind(0));
        int[] due = {1, 0, 1, 2, 3, 0};
        for (int heading = 0; heading < 6; heading++) {
            x.addShip(0, 10 * heading, heading, 12, 12, 30);
            Due.is("bestWind of heading " + heading, x.bestWind(heading), due[heading]);
        }
        x.setWind(3, 0);
        Due.is("bestWind in a calm", x.bestWind(3), 0);
        Due.refused(x, "bestWind(-1)", BOUNDS, () -> x.bestWind(-1));
        Due.refused(x, "bestWind(6)", BOUNDS, () -> x.bestWind(6));
        Due.is("bestWind changes no wind", x.value(2), 3);
        bestWindByRoundedSpeeds();
    }

    /** With 2 sails and strength 1, all factors above 0 give the speed 1. */
    private static void bestWindByRoundedSpeeds() {
        int[] due = {0, 0, 0, 1, 0, 0};
        for (int heading = 0; heading < 6; heading++) {
            HexBroadsides x = new HexBroadsides();
            x.setWind(0, 1);
            x.addShip(0, 44, 0, 60, 11, 60);
            x.addShip(1, 63, heading, 60, 12, 60);
            Due.is("sails lost", x.fire(0, true, 1, 1), 9);
            x.endRound();
            Due.is("sails lost", x.fire(0, true, 1, 1), 9);
            Due.is("sails left", x.ship(1, 4), 2);
            Due.is("bestWind of heading " + heading, x.bestWind(1), due[heading]);
        }
    }

    private static void balance() {
        HexBroadsides x = new HexBroadsides();
        Due.is("balance without ships", x.balance(0), 0.5);
        Due.is("balance without ships", x.balance(1), 0.5);
        x.addShip(0, 44, 0, 12, 12, 30);
        Due.is("balance of the one side", x.balance(0), 1.0);
        Due.is("balance of the other side", x.balance(1), 0.0);
        x.addShip(1, 54, 3, 12, 12, 17);
        x.addShip(1, 0, 3, 7, 12, 20);
        Due.is("balance", x.balance(0), 42.0 / 98.0);
        Due.is("balance", x.balance(1), 56.0 / 98.0);
        x.fire(0, true, 1, 0);
        Due.is("a sunk ship has no weight", x.balance(0), 42.0 / 69.0);
        Due.is("a sunk ship has no weight", x.balance(1), 27.0 / 69.0);
        Due.refused(x, "balance(-1)", ARGUMENT, () -> x.balance(-1));
        Due.refused(x, "balance(2)", ARGUMENT, () -> x.balance(2));
    }
}
