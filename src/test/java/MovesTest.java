/** Promises 11 to 13: moving ahead, turning with and without a tack, and the end of a round. */
public final class MovesTest {
    private static final Class<?> BOUNDS = IndexOutOfBoundsException.class;
    private static final Class<?> STATE = IllegalStateException.class;

    public static void main(String[] args) {
        ahead();
        aheadBlocked();
        aheadOffTheSea();
        noMovesForSomeShips();
        turn();
        tack();
        endRound();
        oneSail();
        drift();
        Due.finish("MovesTest");
    }

    private static void ahead() {
        int[] due = {45, 54, 53, 43, 34, 35};
        for (int heading = 0; heading < 6; heading++) {
            HexBroadsides x = new HexBroadsides();
            x.setWind((heading + 1) % 6, 2);
            x.addShip(0, 44, heading, 10, 2, 10);
            Due.is("ahead with heading " + heading, x.ahead(0), due[heading]);
            Due.is("its cell", x.ship(0, 1), due[heading]);
            Due.is("its heading", x.ship(0, 2), heading);
            Due.is("its points", x.ship(0, 8), 5);
            x.undo();
            Due.is("its cell undone", x.ship(0, 1), 44);
            Due.is("its points undone", x.ship(0, 8), 6);
        }
        HexBroadsides x = new HexBroadsides();
        x.setWind(0, 0);
        x.addShip(0, 44, 2, 10, 2, 10);
        Due.is("ahead with the one point", x.ahead(0), 53);
        Due.refused(x, "ahead without points", STATE, () -> x.ahead(0));
        Due.refused(x, "turn without points", STATE, () -> x.turn(0, false));
        Due.refused(x, "ahead(-1)", BOUNDS, () -> x.ahead(-1));
        Due.refused(x, "ahead(1)", BOUNDS, () -> x.ahead(1));
    }

    private static void aheadBlocked() {
        HexBroadsides x = new HexBroadsides();
        x.addShip(0, 44, 0, 12, 12, 30);
        x.addShip(1, 45, 1, 12, 12, 30);
        Due.refused(x, "ahead onto a ship", STATE, () -> x.ahead(0));
        x.ahead(1);
        Due.is("ahead when it has gone", x.ahead(0), 45);
        x.setRock(46, true);
        Due.refused(x, "ahead onto a rock", STATE, () -> x.ahead(0));
        x.setRock(46, false);
        Due.is("ahead without the rock", x.ahead(0), 46);
        x.endRound();
        x.setWind(3, 3);
        Due.refused(x, "ahead against the wind", STATE, () -> x.ahead(0));
        x.setWind(2, 3);
        Due.is("ahead close to the wind", x.ahead(0), 47);

        HexBroadsides y = new HexBroadsides();
        y.addShip(0, 44, 1, 12, 12, 30);
        y.addShip(1, 54, 2, 12, 12, 30);
        y.turn(0, false);
        y.fire(0, true, 1, 0);
        y.turn(0, true);
        Due.is("ahead over a sunk ship", y.ahead(0), 54);
    }

    private static void aheadOffTheSea() {
        int[] edges = {9, 79, 70, 70, 0, 9};
        for (int heading = 0; heading < 6; heading++) {
            HexBroadsides x = new HexBroadsides();
            x.setWind(heading, 2);
            x.addShip(0, edges[heading], heading, 10, 2, 10);
            int h = heading;
            Due.refused(x, "ahead off the sea with heading " + h, STATE, () -> x.ahead(0));
        }
        HexBroadsides x = new HexBroadsides();
        x.addShip(0, 20, 2, 10, 2, 10);
        x.addShip(0, 29, 5, 10, 2, 10);
        Due.refused(x, "ahead over the left border", STATE, () -> x.ahead(0));
        Due.refused(x, "ahead over the right border", STATE, () -> x.ahead(1));
    }

    private static void noMovesForSomeShips() {
        HexBroadsides x = new HexBroadsides();
        x.addShip(0, 44, 0, 12, 12, 30);
        x.addShip(1, 54, 1, 36, 12, 30);
        x.grapple(0, 1);
        Due.refused(x, "ahead when grappled", STATE, () -> x.ahead(0));
        Due.refused(x, "turn when grappled", STATE, () -> x.turn(0, true));
        Due.refused(x, "ahead of the other one", STATE, () -> x.ahead(1));
        Due.refused(x, "turn of the other one", STATE, () -> x.turn(1, true));
        x.cut(1);
        Due.is("sails shot away", x.fire(0, true, 1, 1), 20);
        Due.is("points are left all the same", x.ship(1, 8), 6);
        Due.refused(x, "ahead without sails", STATE, () -> x.ahead(1));
        Due.refused(x, "turn without sails", STATE, () -> x.turn(1, false));
        Due.is("ahead when cut", x.ahead(0), 45);
        x.undo();
        x.endRound();
        x.begin(10, 8);
        x.addShip(0, 44, 0, 12, 12, 30);
        x.addShip(1, 54, 1, 12, 12, 30);
        x.fire(0, true, 1, 0);
        Due.refused(x, "ahead when sunk", STATE, () -> x.ahead(1));
        Due.refused(x, "turn when sunk", STATE, () -> x.turn(1, true));
    }

    private static void turn() {
        HexBroadsides x = new HexBroadsides();
        x.setWind(0, 3);
        x.addShip(0, 44, 0, 10, 2, 10);
        Due.is("points", x.ship(0, 8), 6);
        Due.is("turn to the left", x.turn(0, false), 5);
        Due.is("its heading", x.ship(0, 2), 5);
        Due.is("its cell", x.ship(0, 1), 44);
        Due.is("its points", x.ship(0, 8), 5);
        Due.is("turn to the right", x.turn(0, true), 0);
        Due.is("turn to the right", x.turn(0, true), 1);
        Due.is("undo()", x.undo(), 4 - 1);
        Due.is("its heading undone", x.ship(0, 2), 0);
        Due.is("its points undone", x.ship(0, 8), 4);
        Due.refused(x, "turn(-1)", BOUNDS, () -> x.turn(-1, true));
        Due.refused(x, "turn(1)", BOUNDS, () -> x.turn(1, true));
    }

    private static void tack() {
        HexBroadsides x = new HexBroadsides();
        x.setWind(0, 3);
        x.addShip(0, 44, 1, 10, 2, 10);
        Due.is("turn to the angle 2", x.turn(0, true), 2);
        Due.refused(x, "a tack without way", STATE, () -> x.turn(0, true));
        x.ahead(0);
        Due.is("a tack with way", x.turn(0, true), 3);
        Due.refused(x, "ahead in irons", STATE, () -> x.ahead(0));
        Due.is("from the angle 3 on", x.turn(0, true), 4);
        Due.refused(x, "back into the wind", STATE, () -> x.turn(0, false));
        x.ahead(0);
        Due.is("back with way", x.turn(0, false), 3);
        Due.is("points", x.ship(0, 8), 3);
        Due.is("from the angle 3 back", x.turn(0, false), 2);
        x.ahead(0);
        x.endRound();
        Due.refused(x, "the way of the last round", STATE, () -> x.turn(0, true));
        x.ahead(0);
        x.undo();
        Due.refused(x, "the way that was undone", STATE, () -> x.turn(0, true));
        x.ahead(0);
        x.setWind(0, 3);
        x.setRock(0, true);
        Due.is("way stays behind other calls", x.turn(0, true), 3);
        x.undo();
        Due.is("way comes back by undo()", x.turn(0, true), 3);

        HexBroadsides y = new HexBroadsides();
        y.addShip(0, 44, 3, 10, 2, 10);
        Due.is("from the angle 3 at once", y.turn(0, true), 4);
        y.addShip(0, 54, 4, 10, 2, 10);
        Due.refused(y, "a new ship has no way", STATE, () -> y.turn(1, false));
    }

    private static void endRound() {
        HexBroadsides x = new HexBroadsides();
        Due.is("endRound() without ships", x.endRound(), 0);
        Due.is("the round", x.value(4), 2);
        x.addShip(0, 44, 0, 10, 12, 20);
        x.addShip(1, 63, 3, 60, 11, 60);
        x.addShip(1, 0, 3, 60, 11, 60);
        Due.is("the crew falls below half", x.fire(1, true, 0, 2), 11);
        x.fire(0, true, 1, 1);
        Due.is("wait of 2", x.ship(0, 10), 2);
        x.ahead(0);
        Due.is("points used", x.ship(0, 8), 3);
        Due.is("endRound()", x.endRound(), 0);
        Due.is("wait of 1", x.ship(0, 10), 1);
        Due.is("wait of 0", x.ship(1, 10), 0);
        Due.is("points new", x.ship(0, 8), 4);
        Due.is("one point against the wind", x.ship(2, 8), 1);
        x.setWind(2, 3);
        x.endRound();
        Due.is("wait of 0", x.ship(0, 10), 0);
        Due.is("never below 0", x.ship(1, 10), 0);
        Due.is("points by the new wind", x.ship(0, 8), 3);
        Due.is("the round", x.value(4), 4);
        Due.is("undo()", x.undo(), 3);
        Due.is("the round undone", x.value(4), 3);
        Due.is("the wait undone", x.ship(0, 10), 1);
        x.setWind(0, 0);
        x.endRound();
        Due.is("one point in a calm", x.ship(0, 8), 1);
    }

    /** With one sail a ship still sails and does not drift. */
    private static void oneSail() {
        HexBroadsides x = new HexBroadsides();
        x.setWind(0, 1);
        x.addShip(0, 44, 0, 60, 11, 60);
        x.addShip(0, 43, 0, 60, 12, 60);
        x.addShip(1, 63, 2, 60, 12, 60);
        Due.is("sails lost", x.fire(0, true, 2, 1), 9);
        Due.is("sails lost", x.fire(1, true, 2, 1), 10);
        Due.is("sails left", x.ship(2, 4), 1);
        Due.is("(1 * 1 * 1 + 19) / 20", x.ship(2, 12), 1);
        Due.is("no drift with one sail", x.endRound(), 0);
        Due.is("points with one sail", x.ship(2, 8), 1);
        Due.is("reach with one sail", x.reach(2), 2);
        Due.is("ahead with one sail", x.ahead(2), 72);
        x.setWind(0, 0);
        x.endRound();
        Due.is("points with one sail in a calm", x.ship(2, 8), 1);
        Due.is("turn with one sail", x.turn(2, false), 1);
    }

    /** Ships 1 and 2 are the hulks; the gunners shoot away their sails at once. */
    private static HexBroadsides hulks(int first, int second) {
        HexBroadsides x = new HexBroadsides();
        x.addShip(0, first - 10, 0, 60, 12, 60);
        x.addShip(1, first, 1, 60, 12, 60);
        x.addShip(1, second, 1, 60, 12, 60);
        x.addShip(0, second + 10, 0, 60, 12, 60);
        Due.is("sails of the first", x.fire(0, true, 1, 1), 20);
        Due.is("sails of the second", x.fire(3, false, 2, 1), 20);
        return x;
    }

    private static void drift() {
        HexBroadsides x = hulks(43, 44);
        Due.is("the lower number is blocked by the higher", x.endRound(), 1);
        Due.is("cell of the first", x.ship(1, 1), 43);
        Due.is("cell of the second", x.ship(2, 1), 45);
        Due.is("both drift then", x.endRound(), 2);
        Due.is("cell of the first", x.ship(1, 1), 44);
        Due.is("no points without sails", x.ship(1, 8), 0);
        x.undo();
        Due.is("drifting undone", x.ship(2, 1), 45);

        HexBroadsides y = hulks(44, 43);
        Due.is("the lower number makes room", y.endRound(), 2);
        Due.is("cell of the first", y.ship(1, 1), 45);
        Due.is("cell of the second", y.ship(2, 1), 44);
        y.setWind(0, 0);
        Due.is("no drift in a calm", y.endRound(), 0);
        y.setWind(0, 1);
        y.setRock(46, true);
        Due.is("no drift onto a rock, nor behind it", y.endRound(), 0);
        y.setWind(5, 3);
        Due.is("drift by one cell in a storm", y.endRound(), 2);
        Due.is("cell of the first", y.ship(1, 1), 36);
        Due.is("cell of the second", y.ship(2, 1), 35);

        HexBroadsides z = hulks(49, 40);
        z.setWind(3, 2);
        Due.is("no drift off the sea", z.endRound(), 1);
        Due.is("cell of the first", z.ship(1, 1), 48);
        Due.is("cell of the second", z.ship(2, 1), 40);
        z.setWind(5, 2);
        z.grapple(3, 2);
        Due.is("no drift when grappled", z.endRound(), 0);
        sunkShipsDoNotDrift();
        theFirstShipDrifts();
    }

    private static void theFirstShipDrifts() {
        HexBroadsides x = new HexBroadsides();
        x.setWind(2, 1);
        x.addShip(0, 44, 4, 60, 12, 60);
        x.addShip(1, 34, 3, 60, 12, 60);
        Due.is("sails lost", x.fire(1, false, 0, 1), 20);
        Due.is("drift with the strength 1", x.endRound(), 1);
        Due.is("its cell", x.ship(0, 1), 53);
    }

    private static void sunkShipsDoNotDrift() {
        HexBroadsides x = new HexBroadsides();
        x.addShip(0, 33, 0, 60, 12, 60);
        x.addShip(1, 43, 1, 36, 12, 60);
        x.fire(0, true, 1, 1);
        x.setWind(0, 0);
        x.endRound();
        Due.is("the hulk sinks", x.fire(0, true, 1, 0), 36);
        x.setWind(0, 2);
        Due.is("a sunk hulk does not drift", x.endRound(), 0);
    }
}
