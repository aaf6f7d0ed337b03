/** Promises 14 to 18: force, fire, grapple, cut and board. */
public final class FightsTest {
    private static final Class<?> BOUNDS = IndexOutOfBoundsException.class;
    private static final Class<?> ARGUMENT = IllegalArgumentException.class;
    private static final Class<?> STATE = IllegalStateException.class;
    private static final int[] ROW_STEP = {0, 1, 1, 0, -1, -1};
    private static final int[] COLUMN_STEP = {1, 0, -1, -1, 0, 1};

    public static void main(String[] args) {
        arcs();
        forceByRange();
        raking();
        hidden();
        hiddenInAllDirections();
        noForce();
        forceRefused();
        fireAtHull();
        fireAtGuns();
        fireAtSails();
        fireAtCrew();
        waits();
        sinking();
        fireRefused();
        grapple();
        cut();
        board();
        taking();
        boardRefused();
        Due.finish("FightsTest");
    }

    /** A target goes through all cells around; the arcs are built from i, j and k. */
    private static void arcs() {
        for (int heading = 0; heading < 6; heading++) {
            for (int k = 0; k < 6; k++) {
                for (int i = 1; i <= 3; i++) {
                    for (int j = 0; j <= 3; j++) {
                        arc(heading, k, i, j);
                    }
                }
            }
        }
    }

    private static void arc(int heading, int k, int i, int j) {
        int next = (k + 1) % 6;
        int row = 6 + i * ROW_STEP[k] + j * ROW_STEP[next];
        int column = 6 + i * COLUMN_STEP[k] + j * COLUMN_STEP[next];
        if (row < 0 || row > 11 || column < 0 || column > 11) {
            return;
        }
        HexBroadsides x = new HexBroadsides();
        x.begin(12, 12);
        x.addShip(0, 78, heading, 60, 5, 60);
        x.addShip(1, 12 * row + column, 0, 60, 5, 60);
        int angle = (k - heading + 6) % 6;
        boolean right = angle == 1 || angle == 2 && j == 0;
        boolean left = angle == 4 || angle == 5 && j == 0;
        int force = i + j > 6 ? 0 : 5 * (7 - i - j);
        if (j == 0 && (k == 0 || k == 3)) {
            force *= 2;
        }
        String where = " heading " + heading + " k " + k + " i " + i + " j " + j;
        Due.is("force to the right," + where, x.force(0, true, 1), right ? force : 0);
        Due.is("force to the left," + where, x.force(0, false, 1), left ? force : 0);
        int best = force == 0 || !right && !left ? -1 : right ? 3 : 2;
        Due.is("bestShot," + where, x.bestShot(0), best);
    }

    private static void forceByRange() {
        HexBroadsides x = new HexBroadsides();
        x.begin(12, 12);
        x.addShip(0, 6, 0, 60, 12, 60);
        for (int d = 1; d <= 7; d++) {
            x.addShip(1, 6 + 12 * d, 0, 1, 1, 1);
            Due.is("force at the distance " + d, x.force(0, true, d), d > 6 ? 0 : 12 * (7 - d));
            x.undo();
            x.addShip(0, 143 - d, 0, 1, 1, 1);
        }
    }

    private static void raking() {
        for (int heading = 0; heading < 6; heading++) {
            HexBroadsides x = new HexBroadsides();
            x.addShip(0, 44, 0, 60, 7, 60);
            x.addShip(1, 64, heading, 60, 5, 60);
            boolean along = heading == 1 || heading == 4;
            Due.is("force at heading " + heading, x.force(0, true, 1), along ? 70 : 35);
            x.addShip(1, 63, heading, 60, 5, 60);
            Due.is("force off the line at heading " + heading, x.force(0, true, 2), 35);
        }
    }

    private static void hidden() {
        HexBroadsides x = new HexBroadsides();
        x.addShip(0, 14, 0, 60, 12, 60);
        x.addShip(1, 44, 0, 60, 12, 60);
        Due.is("force", x.force(0, true, 1), 48);
        x.setRock(34, true);
        Due.is("force behind a rock", x.force(0, true, 1), 0);
        Due.is("the other way", x.force(1, false, 0), 0);
        x.setRock(34, false);
        x.setRock(54, true);
        x.setRock(4, true);
        Due.is("rocks at the ends do not hide", x.force(0, true, 1), 48);
        x.addShip(0, 24, 1, 12, 12, 60);
        Due.is("force behind a ship", x.force(0, true, 1), 0);
        Due.is("bestShot behind a ship", x.bestShot(0), -1);
        x.addShip(1, 25, 5, 60, 12, 60);
        Due.is("the ship between sinks", x.fire(3, false, 2, 0), 12);
        Due.is("a sunk ship hides nothing", x.force(0, true, 1), 48);
        x.addShip(1, 52, 0, 60, 12, 60);
        x.setRock(33, true);
        x.setRock(43, true);
        x.setRock(24, true);
        Due.is("nothing is hidden off the lines", x.force(0, true, 4), 36);
    }

    private static void hiddenInAllDirections() {
        for (int k = 0; k < 6; k++) {
            HexBroadsides x = new HexBroadsides();
            x.begin(12, 12);
            int step = 12 * ROW_STEP[k] + COLUMN_STEP[k];
            x.addShip(0, 78, (k + 5) % 6, 60, 12, 60);
            x.addShip(1, 78 + 3 * step, (k + 1) % 6, 60, 12, 60);
            x.setRock(78 - step, true);
            x.setRock(78 + 4 * step, true);
            Due.is("force in the direction " + k, x.force(0, true, 1), 48);
            x.setRock(78 + step, true);
            Due.is("hidden near, direction " + k, x.force(0, true, 1), 0);
            x.setRock(78 + step, false);
            x.setRock(78 + 2 * step, true);
            Due.is("hidden far, direction " + k, x.force(0, true, 1), 0);
        }
    }

    private static void noForce() {
        HexBroadsides x = new HexBroadsides();
        x.addShip(0, 44, 0, 12, 12, 60);
        x.addShip(0, 54, 0, 60, 12, 60);
        x.addShip(1, 53, 0, 60, 0, 60);
        x.addShip(1, 34, 0, 60, 12, 60);
        Due.is("no force at the own side", x.force(0, true, 1), 0);
        Due.is("no force without guns", x.force(2, false, 0), 0);
        Due.refused(x, "fire at the own side", STATE, () -> x.fire(0, true, 1, 0));
        Due.refused(x, "fire without guns", STATE, () -> x.fire(2, false, 0, 0));
        x.fire(0, true, 2, 1);
        Due.is("force with a wait", x.force(0, true, 2), 72);
        x.fire(3, true, 0, 0);
        Due.is("the ship sinks", x.ship(0, 3), 0);
        Due.is("no force of a sunk ship", x.force(0, true, 2), 0);
        Due.is("no force at a sunk ship", x.force(3, true, 0), 0);
        Due.is("bestShot of a sunk ship", x.bestShot(0), -1);
        x.endRound();
        Due.refused(x, "fire of a sunk ship", STATE, () -> x.fire(0, true, 2, 0));
        Due.refused(x, "fire at a sunk ship", STATE, () -> x.fire(3, true, 0, 0));
        Due.refused(x, "grapple of a sunk ship", STATE, () -> x.grapple(0, 2));
        Due.refused(x, "grapple at a sunk ship", STATE, () -> x.grapple(2, 0));
    }

    private static void forceRefused() {
        HexBroadsides x = new HexBroadsides();
        Due.refused(x, "force without ships", BOUNDS, () -> x.force(0, true, 0));
        x.addShip(0, 44, 0, 60, 12, 60);
        Due.refused(x, "force(0, true, 0)", ARGUMENT, () -> x.force(0, true, 0));
        Due.refused(x, "force(0, true, 1)", BOUNDS, () -> x.force(0, true, 1));
        Due.refused(x, "force(1, true, 0)", BOUNDS, () -> x.force(1, true, 0));
        Due.refused(x, "force(-1, true, -1)", BOUNDS, () -> x.force(-1, true, -1));
        Due.refused(x, "force(0, true, -1)", BOUNDS, () -> x.force(0, true, -1));
    }

    private static void fireAtHull() {
        HexBroadsides x = new HexBroadsides();
        x.addShip(0, 44, 0, 60, 9, 60);
        x.addShip(1, 54, 0, 30, 9, 60);
        Due.is("force", x.force(0, true, 1), 54);
        Due.is("fire at the hull", x.fire(0, true, 1, 0), 13);
        Due.is("hull", x.ship(1, 3), 17);
        Due.is("sails", x.ship(1, 4), 20);
        Due.is("left guns", x.ship(1, 5), 5);
        Due.is("right guns", x.ship(1, 6), 9);
        Due.is("crew", x.ship(1, 7), 60);
        Due.is("points of the firing ship", x.ship(0, 8), 4);
        Due.is("undo()", x.undo(), 2);
        Due.is("hull undone", x.ship(1, 3), 30);
        Due.is("guns undone", x.ship(1, 5), 9);
        Due.is("wait undone", x.ship(0, 10), 0);
    }

    /** The target lies in direction 1; its heading decides to which side the shot comes. */
    private static void fireAtGuns() {
        int[] left = {8, 12, 12, 12, 12, 8};
        int[] right = {12, 12, 8, 8, 12, 12};
        for (int heading = 0; heading < 6; heading++) {
            HexBroadsides x = new HexBroadsides();
            x.addShip(0, 44, 0, 60, 9, 60);
            x.addShip(1, 54, heading, 60, 12, 60);
            x.fire(0, true, 1, 0);
            Due.is("left guns with heading " + heading, x.ship(1, 5), left[heading]);
            Due.is("right guns with heading " + heading, x.ship(1, 6), right[heading]);
        }
        HexBroadsides x = new HexBroadsides();
        x.addShip(0, 44, 0, 60, 12, 60);
        x.addShip(1, 54, 0, 60, 4, 60);
        x.fire(0, true, 1, 0);
        Due.is("guns do not fall below 0", x.ship(1, 5), 0);
        HexBroadsides z = new HexBroadsides();
        z.addShip(0, 44, 0, 60, 12, 60);
        z.addShip(1, 54, 3, 60, 4, 60);
        z.fire(0, true, 1, 0);
        Due.is("right guns do not fall below 0", z.ship(1, 6), 0);
        int[][] losses = {{7, 3, 10}, {10, 5, 15}, {11, 5, 16}, {1, 0, 1}, {2, 1, 3}};
        for (int[] l : losses) {
            for (int heading = 0; heading <= 3; heading += 3) {
                HexBroadsides y = new HexBroadsides();
                y.addShip(0, 44, 0, 60, l[0], 60);
                y.addShip(1, 54, heading, 60, 12, 60);
                y.fire(0, true, 1, 0);
                String what = "force " + 6 * l[0] + " at heading " + heading + ": ";
                Due.is(what + "guns", y.ship(1, heading == 0 ? 5 : 6), 12 - l[1]);
                Due.is(what + "hull", y.ship(1, 3), 60 - l[2]);
            }
        }
        theLeastForce();
    }

    private static void theLeastForce() {
        HexBroadsides x = new HexBroadsides();
        x.begin(12, 12);
        x.addShip(0, 6, 0, 60, 1, 60);
        x.addShip(1, 78, 0, 60, 1, 60);
        Due.is("the least force", x.force(0, true, 1), 1);
        Due.is("bestShot with the least force", x.bestShot(0), 3);
        Due.is("bestShot at the ship 0", x.bestShot(1), 0);
        Due.is("fire with the least force", x.fire(0, true, 1, 0), 0);
        Due.is("the wait all the same", x.ship(0, 10), 1);
    }

    private static void fireAtSails() {
        HexBroadsides x = new HexBroadsides();
        x.addShip(0, 44, 0, 60, 7, 60);
        x.addShip(0, 64, 0, 60, 11, 60);
        x.addShip(1, 63, 3, 60, 9, 60);
        x.addShip(1, 54, 1, 60, 9, 60);
        Due.is("35 / 6 of the sails", x.fire(0, true, 2, 1), 5);
        Due.is("sails", x.ship(2, 4), 15);
        Due.is("hull", x.ship(2, 3), 60);
        Due.is("132 / 6 of the sails", x.fire(1, false, 3, 1), 20);
        Due.is("sails", x.ship(3, 4), 0);
        Due.is("guns", x.ship(3, 5), 9);
        x.endRound();
        Due.is("nothing more to lose", x.fire(1, false, 3, 1), 0);
    }

    private static void fireAtCrew() {
        HexBroadsides x = new HexBroadsides();
        x.addShip(0, 34, 0, 60, 12, 60);
        x.addShip(1, 53, 3, 60, 9, 20);
        Due.is("distance of 2", x.distance(34, 53), 2);
        Due.is("60 / 5 of the crew", x.fire(0, true, 1, 2), 12);
        Due.is("crew", x.ship(1, 7), 8);
        Due.is("hull", x.ship(1, 3), 60);
        x.endRound();
        Due.is("the crew keeps one", x.fire(0, true, 1, 2), 7);
        Due.is("crew", x.ship(1, 7), 1);
        x.endRound();
        Due.is("and loses no more", x.fire(0, true, 1, 2), 0);
        x.begin(10, 8);
        x.addShip(0, 24, 0, 60, 12, 60);
        x.addShip(1, 53, 3, 60, 9, 20);
        Due.is("distance of 3", x.distance(24, 53), 3);
        Due.refused(x, "fire at the crew from afar", STATE, () -> x.fire(0, true, 1, 2));
        Due.is("fire at the sails from afar", x.fire(0, true, 1, 1), 8);
    }

    private static void waits() {
        int[][] due = {{20, 10, 1}, {20, 11, 2}, {21, 10, 1}, {21, 11, 2}, {22, 11, 1}, {23, 12, 2}};
        for (int[] d : due) {
            HexBroadsides x = new HexBroadsides();
            x.addShip(0, 44, 0, 60, 3, d[0]);
            x.addShip(1, 63, 3, 60, d[1], 60);
            String what = "crew " + d[0] + " less " + d[1] + ": ";
            Due.is(what + "lost", x.fire(1, true, 0, 2), d[1]);
            x.fire(0, true, 1, 1);
            Due.is(what + "right wait", x.ship(0, 10), d[2]);
            Due.is(what + "left wait", x.ship(0, 9), 0);
            Due.refused(x, what + "fire again", STATE, () -> x.fire(0, true, 1, 1));
            x.endRound();
            Due.is(what + "right wait then", x.ship(0, 10), d[2] - 1);
        }
        HexBroadsides y = new HexBroadsides();
        y.addShip(0, 44, 0, 60, 3, 20);
        y.addShip(1, 25, 0, 60, 11, 60);
        y.fire(1, true, 0, 2);
        y.fire(0, false, 1, 1);
        Due.is("left wait of 2", y.ship(0, 9), 2);
        y.endRound();
        Due.is("left wait of 1", y.ship(0, 9), 1);
        y.endRound();
        Due.is("left wait of 0", y.ship(0, 9), 0);
        HexBroadsides x = new HexBroadsides();
        x.addShip(0, 44, 0, 60, 3, 20);
        x.addShip(1, 34, 3, 60, 3, 60);
        x.addShip(1, 54, 3, 60, 3, 60);
        x.fire(0, false, 1, 1);
        Due.is("left wait", x.ship(0, 9), 1);
        Due.is("right wait", x.ship(0, 10), 0);
        x.fire(0, true, 2, 1);
        Due.is("right wait behind the other", x.ship(0, 10), 1);
    }

    private static void sinking() {
        HexBroadsides x = new HexBroadsides();
        x.addShip(0, 44, 0, 60, 12, 60);
        x.addShip(1, 54, 0, 18, 12, 60);
        x.addShip(0, 64, 0, 60, 12, 60);
        x.grapple(2, 1);
        Due.is("a shot that sinks just so", x.fire(0, true, 1, 0), 18);
        Due.is("its cell", x.ship(1, 1), -1);
        Due.is("grappled to none", x.ship(1, 11), -1);
        Due.is("nor is the other one", x.ship(2, 11), -1);
        Due.refused(x, "cut behind it", STATE, () -> x.cut(2));
        Due.is("ships afloat", x.value(7), 0);
        Due.is("the other one moves again", x.turn(2, true), 1);
        x.undo();
        x.undo();
        Due.is("grappled again by undo()", x.ship(2, 11), 1);
        Due.is("afloat again by undo()", x.at(54), 1);

        HexBroadsides y = new HexBroadsides();
        y.addShip(0, 44, 0, 60, 12, 60);
        y.addShip(1, 54, 0, 17, 12, 60);
        Due.is("only what there is can be lost", y.fire(0, true, 1, 0), 17);
        y.begin(10, 8);
        y.addShip(0, 44, 0, 60, 12, 60);
        y.addShip(1, 54, 0, 19, 12, 60);
        y.fire(0, true, 1, 0);
        Due.is("a hull of 1 floats", y.at(54), 1);
    }

    private static void fireRefused() {
        HexBroadsides x = new HexBroadsides();
        Due.refused(x, "fire without ships", BOUNDS, () -> x.fire(0, true, 0, 9));
        x.addShip(0, 44, 0, 60, 12, 60);
        x.addShip(1, 54, 3, 60, 12, 60);
        Due.refused(x, "fire(2, true, 2, 9)", BOUNDS, () -> x.fire(2, true, 2, 9));
        Due.refused(x, "fire(0, true, -1, 0)", BOUNDS, () -> x.fire(0, true, -1, 0));
        Due.refused(x, "fire(-1, true, 0, 0)", BOUNDS, () -> x.fire(-1, true, 0, 0));
        Due.refused(x, "fire(0, true, 0, 0)", ARGUMENT, () -> x.fire(0, true, 0, 0));
        Due.refused(x, "fire(0, true, 1, 3)", ARGUMENT, () -> x.fire(0, true, 1, 3));
        Due.refused(x, "fire(0, true, 1, -1)", ARGUMENT, () -> x.fire(0, true, 1, -1));
        Due.refused(x, "fire(0, false, 1, 3)", ARGUMENT, () -> x.fire(0, false, 1, 3));
        Due.refused(x, "fire out of the arc", STATE, () -> x.fire(0, false, 1, 0));
    }

    private static void grapple() {
        HexBroadsides x = new HexBroadsides();
        x.addShip(0, 44, 0, 60, 12, 60);
        x.addShip(1, 54, 0, 60, 12, 60);
        x.addShip(0, 55, 0, 60, 12, 60);
        x.addShip(1, 45, 0, 60, 12, 60);
        x.addShip(1, 46, 0, 60, 12, 60);
        Due.refused(x, "grapple at the distance 2", STATE, () -> x.grapple(0, 4));
        Due.refused(x, "grapple the own side", STATE, () -> x.grapple(3, 1));
        Due.is("grapple", x.grapple(0, 1), 2);
        Due.is("grappled to", x.ship(0, 11), 1);
        Due.is("grappled to", x.ship(1, 11), 0);
        Due.refused(x, "grapple when grappled", STATE, () -> x.grapple(0, 3));
        Due.refused(x, "grapple one who is grappled", STATE, () -> x.grapple(2, 1));
        Due.is("grapple two more", x.grapple(3, 2), 4);
        x.undo();
        Due.is("undone", x.ship(2, 11), -1);
        Due.is("undone", x.ship(3, 11), -1);
        Due.is("not undone", x.ship(0, 11), 1);
        Due.refused(x, "grapple(0, 0)", ARGUMENT, () -> x.grapple(0, 0));
        Due.refused(x, "grapple(5, 5)", BOUNDS, () -> x.grapple(5, 5));
        Due.refused(x, "grapple(0, 5)", BOUNDS, () -> x.grapple(0, 5));
        Due.refused(x, "grapple(-1, 0)", BOUNDS, () -> x.grapple(-1, 0));
    }

    private static void cut() {
        HexBroadsides x = new HexBroadsides();
        x.addShip(0, 44, 0, 60, 12, 60);
        x.addShip(1, 54, 0, 60, 12, 60);
        Due.refused(x, "cut(2)", BOUNDS, () -> x.cut(2));
        Due.refused(x, "cut(-1)", BOUNDS, () -> x.cut(-1));
        Due.refused(x, "cut when not grappled", STATE, () -> x.cut(0));
        x.grapple(0, 1);
        Due.is("cut by the other one", x.cut(1), 0);
        Due.is("free", x.ship(0, 11), -1);
        Due.is("free", x.ship(1, 11), -1);
        x.undo();
        Due.is("undone", x.ship(0, 11), 1);
        Due.is("cut", x.cut(0), 1);
        Due.is("free", x.ship(0, 11), -1);
        Due.is("free", x.ship(1, 11), -1);
    }

    /** Two grappled ships with these crews; ship 0 is to board. */
    private static HexBroadsides tied(int crew, int otherCrew) {
        HexBroadsides x = new HexBroadsides();
        x.addShip(0, 44, 0, 60, 12, crew);
        x.addShip(1, 54, 0, 60, 12, otherCrew);
        x.grapple(1, 0);
        return x;
    }

    private static void board() {
        int[][] due = {{30, 20, 25, 10}, {30, 11, 27, 1}, {1, 60, 1, 59}, {60, 60, 45, 40},
            {31, 21, 25, 10}, {2, 9, 1, 8}, {15, 60, 1, 55}, {16, 60, 1, 54}, {17, 60, 2, 54}};
        for (int[] d : due) {
            HexBroadsides x = tied(d[0], d[1]);
            String what = "board with " + d[0] + " against " + d[1];
            Due.is(what, x.board(0), 0);
            Due.is(what + ": crew", x.ship(0, 7), d[2]);
            Due.is(what + ": other crew", x.ship(1, 7), d[3]);
            Due.is(what + ": still grappled", x.ship(0, 11), 1);
            Due.is(what + ": side", x.ship(1, 0), 1);
            Due.is(what + ": has boarded", x.ship(0, 14), 1);
            Due.is(what + ": the other has not", x.ship(1, 14), 0);
            Due.refused(x, what + " again", STATE, () -> x.board(0));
        }
        HexBroadsides x = tied(30, 20);
        x.board(0);
        Due.is("the other boards too", x.board(1), 0);
        Due.is("crew", x.ship(0, 7), 21);
        Due.is("other crew", x.ship(1, 7), 3);
        x.endRound();
        Due.is("has boarded", x.ship(0, 14), 0);
        Due.is("board in the next round", x.board(0), 1);
        x.undo();
        Due.is("undone: has boarded", x.ship(0, 14), 0);
        Due.is("undone: crew", x.ship(0, 7), 21);
        Due.is("undone: other crew", x.ship(1, 7), 3);
        Due.is("undone: grappled", x.ship(1, 11), 0);
        Due.is("undone: side", x.ship(1, 0), 1);
    }

    private static void taking() {
        int[][] due = {{30, 10, 20, 7}, {1, 1, 1, 1}, {3, 1, 1, 1}, {4, 1, 2, 1}, {60, 20, 41, 14},
            {6, 2, 3, 2}, {5, 1, 3, 1}, {60, 1, 44, 15}};
        for (int[] d : due) {
            HexBroadsides x = tied(d[0], d[1]);
            String what = "take with " + d[0] + " from " + d[1];
            Due.is(what, x.board(0), 1);
            Due.is(what + ": crew", x.ship(0, 7), d[2]);
            Due.is(what + ": prize crew", x.ship(1, 7), d[3]);
            Due.is(what + ": side", x.ship(1, 0), 0);
            Due.is(what + ": grappled", x.ship(0, 11), -1);
            Due.is(what + ": grappled", x.ship(1, 11), -1);
            Due.is(what + ": has boarded", x.ship(0, 14), 1);
            Due.is(what + ": ships of the side", x.value(6), 2);
            Due.refused(x, what + ": board again", STATE, () -> x.board(0));
        }
        HexBroadsides x = tied(60, 20);
        x.addShip(1, 45, 0, 60, 12, 60);
        x.board(0);
        x.grapple(0, 2);
        Due.refused(x, "board another one in this round", STATE, () -> x.board(0));
        x.endRound();
        Due.is("board another one in the next round", x.board(0), 0);
        theFirstCrewOfAPrize();
    }

    /** A prize keeps the crew with which it was added as its first one. */
    private static void theFirstCrewOfAPrize() {
        HexBroadsides x = tied(60, 20);
        x.addShip(1, 64, 0, 60, 12, 60);
        x.board(0);
        x.fire(1, true, 2, 1);
        Due.is("14 of 20 are enough", x.ship(1, 10), 1);
        HexBroadsides y = tied(30, 10);
        y.addShip(1, 64, 0, 60, 12, 60);
        y.board(0);
        y.fire(1, true, 2, 1);
        Due.is("7 of 10 are enough", y.ship(1, 10), 1);
        HexBroadsides z = tied(6, 3);
        z.addShip(1, 64, 0, 60, 12, 60);
        Due.is("6 against 3", z.board(0), 0);
        z.endRound();
        Due.is("5 against 1", z.board(0), 1);
        z.fire(1, true, 2, 1);
        Due.is("1 of 3 is not enough", z.ship(1, 10), 2);
    }

    private static void boardRefused() {
        HexBroadsides x = new HexBroadsides();
        x.addShip(0, 44, 0, 60, 12, 30);
        x.addShip(1, 54, 0, 60, 12, 30);
        Due.refused(x, "board(2)", BOUNDS, () -> x.board(2));
        Due.refused(x, "board(-1)", BOUNDS, () -> x.board(-1));
        Due.refused(x, "board when not grappled", STATE, () -> x.board(0));
    }
}
