/** The sections "Arcs.", "Firing." and "Boarding." of the document's terms. */
final class FightTermsEdges {
    private static final int[] ROW_STEP = {0, 1, 1, 0, -1, -1};
    private static final int[] COLUMN_STEP = {1, 0, -1, -1, 0, 1};

    private FightTermsEdges() {
    }

    static void run() {
        arcs();
        hiding();
        whoCanFire();
        atWhom();
        force();
        aims();
        behindTheShot();
        grappling();
        boarding();
        taking();
    }

    /** The cell of a sea of 12 to 12 that lies so from the cell 78; -1 if it is off the sea. */
    private static int around(int k, int i, int j) {
        int row = 6 + i * ROW_STEP[k] + j * ROW_STEP[(k + 1) % 6];
        int column = 6 + i * COLUMN_STEP[k] + j * COLUMN_STEP[(k + 1) % 6];
        return row < 0 || row > 11 || column < 0 || column > 11 ? -1 : 12 * row + column;
    }

    /** Ship 0 of the side 0 at 78 of a sea of 12 to 12, ship 1 of the side 1 at another cell. */
    private static HexBroadsides pair(int heading, int cell, int otherHeading) {
        HexBroadsides x = Scenes.sea(12, 12);
        x.addShip(0, 78, heading, 60, 12, 60);
        x.addShip(1, cell, otherHeading, 60, 12, 60);
        return x;
    }

    private static void arcs() {
        Edge.section("Arcs.");
        Edge.test("Let another cell lie at i moves in the direction k and j moves in the direction k + 1, with i above"
                + " 0 and j at least 0: its bearing is k, and it lies on a line if j is 0.", () -> {
            HexBroadsides x = Scenes.sea(12, 12);
            int seen = 0;
            for (int k = 0; k < 6; k++) {
                for (int i = 1; i < 12; i++) {
                    for (int j = 0; j < 12; j++) {
                        int cell = around(k, i, j);
                        if (cell >= 0) {
                            seen++;
                            Due.is("bearing(78, " + cell + ")", x.bearing(78, cell), j == 0 ? 10 + k : k);
                        }
                    }
                }
            }
            Due.is("each other cell has one bearing", seen, 143);
        });
        Edge.test("With the heading h, a cell is in the right arc if its bearing is h + 1, or its bearing is h + 2 and"
                + " it lies on a line", () -> arc(true, 1, 2));
        Edge.test("it is in the left arc if its bearing is h + 4, or its bearing is h + 5 and it lies on a line.",
                () -> arc(false, 4, 5));
    }

    /** All cells at the distances 1 to 3, from all headings. */
    private static void arc(boolean right, int whole, int lineOnly) {
        for (int heading = 0; heading < 6; heading++) {
            for (int k = 0; k < 6; k++) {
                for (int i = 1; i <= 3; i++) {
                    for (int j = 0; i + j <= 3; j++) {
                        int turns = (k + 6 - heading) % 6;
                        boolean in = turns == whole || turns == lineOnly && j == 0;
                        HexBroadsides x = pair(heading, around(k, i, j), 0);
                        Due.is("heading " + heading + ", k " + k + ", i " + i + ", j " + j + ": in the arc",
                                x.force(0, right, 1) > 0 ? 1 : 0, in ? 1 : 0);
                    }
                }
            }
        }
    }

    private static void hiding() {
        Edge.test("A ship that lies on a line is hidden if a rock or another ship is on a cell between, on this line.",
                () -> {
            for (int k = 0; k < 6; k++) {
                hidingInDirection(k, (k + 5) % 6, true);
                hidingInDirection(k, (k + 1) % 6, false);
            }
            Edge.Maker offTheLine = () -> {
                HexBroadsides x = pair(0, around(1, 2, 1), 0);
                x.setRock(around(1, 1, 0), true);
                x.setRock(around(1, 2, 0), true);
                x.setRock(around(1, 1, 1), true);
                x.addShip(1, around(2, 1, 0), 0, 60, 12, 60);
                return x;
            };
            Edge.answers("force at a ship that lies on no line", 48, offTheLine, x -> x.force(0, true, 1));
            for (int k = 0; k < 6; k++) {
                HexBroadsides x = pair((k + 5) % 6, around(k, 2, 3), 0);
                for (int cell = 0; cell < 144; cell++) {
                    if (x.at(cell) == HexBroadsides.NONE) {
                        x.setRock(cell, true);
                    }
                }
                Due.is("force off the lines, over nothing but rocks", x.force(0, true, 1), 24);
            }
        });
        Edge.section("Firing.");
    }

    private static void hidingInDirection(int k, int heading, boolean right) {
        String where = " in the direction " + k;
        Edge.Maker far = () -> pair(heading, around(k, 4, 0), (k + 1) % 6);
        Edge.answers("force over free cells" + where, 36, far, x -> x.force(0, right, 1));
        for (int between = 1; between <= 3; between++) {
            int cell = around(k, between, 0);
            HexBroadsides rock = far.make();
            rock.setRock(cell, true);
            Due.is("force over a rock" + where, rock.force(0, right, 1), 0);
            for (int side = 0; side < 2; side++) {
                HexBroadsides ship = far.make();
                ship.addShip(side, cell, k, 1, 0, 1);
                Due.is("force over a ship of the side " + side + where, ship.force(0, right, 1), 0);
            }
        }
        HexBroadsides ends = far.make();
        ends.setRock(around((k + 3) % 6, 1, 0), true);
        ends.setRock(around(k, 5, 0), true);
        Due.is("force with rocks behind both ends" + where, ends.force(0, right, 1), 36);
        Due.is("force at the next cell" + where, pair(heading, around(k, 1, 0), (k + 1) % 6).force(0, right, 1), 72);
        HexBroadsides sunk = far.make();
        sunk.addShip(1, around(k, 2, 0), k, 30, 0, 1);
        sunk.fire(0, right, 2, 0);
        Due.is("force over a ship that is sunk" + where, sunk.force(0, right, 1), 36);
    }

    private static void whoCanFire() {
        Edge.test("A ship that is afloat", () -> {
            Edge.answers("fire with a hull of 1", 9, () -> Scenes.hit(19), x -> x.fire(1, false, 0, 0));
            Edge.refused("fire with a hull of 0", Edge.STATE, () -> Scenes.hit(18), x -> x.fire(1, false, 0, 0));
        });
        Edge.test("can fire the guns of a side (0 left, 1 right)", () -> {
            Edge.answers("the right guns at the right", 18, Scenes::duel, x -> x.fire(0, true, 1, 0));
            Edge.refused("the left guns at the right", Edge.STATE, Scenes::duel, x -> x.fire(0, false, 1, 0));
            Edge.answers("the left guns at the left", 18, Scenes::duel, x -> x.fire(1, false, 0, 0));
            Edge.refused("the right guns at the left", Edge.STATE, Scenes::duel, x -> x.fire(1, true, 0, 0));
            HexBroadsides x = Scenes.duel();
            x.fire(1, false, 0, 1);
            Due.is("the wait of the left guns", x.ship(1, 9), 1);
            Due.is("the wait of the right guns", x.ship(1, 10), 0);
        });
    }

    private static void atWhom() {
        Edge.test("at a ship of the other side (0 or 1)", () -> {
            for (int side = 0; side < 2; side++) {
                for (int other = 0; other < 2; other++) {
                    int one = side;
                    int two = other;
                    Edge.Maker sides = () -> {
                        HexBroadsides x = new HexBroadsides();
                        x.addShip(one, 44, 0, 60, 12, 60);
                        x.addShip(two, 54, 0, 60, 12, 60);
                        return x;
                    };
                    if (one == two) {
                        Edge.refused("fire at the own side " + one, Edge.STATE, sides, x -> x.fire(0, true, 1, 0));
                    } else {
                        Edge.answers("fire at the side " + two, 18, sides, x -> x.fire(0, true, 1, 0));
                    }
                }
            }
        });
        Edge.test("that is afloat", () -> {
            Edge.answers("fire at a hull of 1", 1, () -> loadedAgain(19), x -> x.fire(0, true, 1, 0));
            Edge.refused("fire at a hull of 0", Edge.STATE, () -> loadedAgain(18), x -> x.fire(0, true, 1, 0));
        });
        Edge.test("in the arc of these guns", () -> {
            int[] outOfBoth = {45, 46, 55, 36, 43, 42, 52, 33};
            for (int cell : outOfBoth) {
                Edge.Maker seen = () -> at(cell);
                Edge.refused("right guns at " + cell, Edge.STATE, seen, x -> x.fire(0, true, 1, 0));
                Edge.refused("left guns at " + cell, Edge.STATE, seen, x -> x.fire(0, false, 1, 0));
            }
            for (int cell : new int[] {54, 53, 63}) {
                Edge.Maker seen = () -> at(cell);
                Edge.answers("right guns at " + cell, 1, seen, x -> x.fire(0, true, 1, 1) > 0 ? 1 : 0);
                Edge.refused("left guns at " + cell, Edge.STATE, seen, x -> x.fire(0, false, 1, 1));
            }
            for (int cell : new int[] {34, 35, 25}) {
                Edge.Maker seen = () -> at(cell);
                Edge.answers("left guns at " + cell, 1, seen, x -> x.fire(0, false, 1, 1) > 0 ? 1 : 0);
                Edge.refused("right guns at " + cell, Edge.STATE, seen, x -> x.fire(0, true, 1, 1));
            }
        });
        Edge.test("not hidden", () -> {
            Edge.answers("fire over a free cell", 15, () -> at(64), x -> x.fire(0, true, 1, 0));
            Edge.refused("fire over a rock", Edge.STATE, () -> {
                HexBroadsides x = at(64);
                x.setRock(54, true);
                return x;
            }, x -> x.fire(0, true, 1, 0));
            Edge.refused("fire over a ship", Edge.STATE, () -> {
                HexBroadsides x = at(64);
                x.addShip(0, 54, 0, 60, 12, 60);
                return x;
            }, x -> x.fire(0, true, 1, 0));
        });
        Edge.test("and at a distance d of at most 6", () -> {
            Edge.answers("fire at the distance 6", 3, () -> apart(6, 12), x -> x.fire(0, true, 1, 0));
            Edge.refused("fire at the distance 7", Edge.STATE, () -> apart(7, 12), x -> x.fire(0, true, 1, 0));
            Edge.answers("fire to the left at the distance 6", 3, () -> apart(6, 12), x -> x.fire(1, false, 0, 0));
            Edge.refused("fire to the left at the distance 7", Edge.STATE, () -> apart(7, 12),
                    x -> x.fire(1, false, 0, 0));
        });
        Edge.test("if the guns are loaded", () -> {
            Edge.refused("fire with a wait of 1", Edge.STATE, () -> Scenes.hit(60), x -> x.fire(0, true, 1, 0));
            Edge.answers("fire when the wait is over", 18, () -> loadedAgain(60), x -> x.fire(0, true, 1, 0));
            Edge.refused("fire to the left with a wait of 1", Edge.STATE, () -> {
                HexBroadsides x = Scenes.duel();
                x.fire(1, false, 0, 1);
                return x;
            }, x -> x.fire(1, false, 0, 0));
            Edge.answers("fire to the left when the right guns wait", 18, () -> {
                HexBroadsides x = Scenes.hit(60);
                x.addShip(1, 34, 0, 60, 12, 60);
                return x;
            }, x -> x.fire(0, false, 2, 0));
        });
        Edge.test("and there is at least one.", () -> {
            Edge.answers("fire with one gun", 0, () -> apart(6, 1), x -> x.fire(0, true, 1, 0));
            Edge.refused("fire with no gun", Edge.STATE, () -> apart(6, 0), x -> x.fire(0, true, 1, 0));
            Edge.Maker shotAway = () -> {
                HexBroadsides x = Scenes.duel(60, 6, 60);
                x.fire(0, true, 1, 0);
                x.addShip(0, 64, 0, 60, 12, 60);
                return x;
            };
            Edge.refused("fire with the left guns shot away", Edge.STATE, shotAway, x -> x.fire(1, false, 0, 0));
            Edge.answers("fire with the right guns that are left", 9, shotAway, x -> x.fire(1, true, 2, 0));
        });
    }

    private static HexBroadsides loadedAgain(int hull) {
        HexBroadsides x = Scenes.hit(hull);
        x.endRound();
        return x;
    }

    /** Ship 0 at 44 with the heading 0, and ship 1 of the other side at this cell. */
    private static HexBroadsides at(int cell) {
        HexBroadsides x = Scenes.lone(44, 0);
        x.addShip(1, cell, 0, 60, 12, 60);
        return x;
    }

    /** Ship 0 has ship 1 to the right, ship 1 has ship 0 to the left; neither shot rakes. */
    private static HexBroadsides apart(int distance, int guns) {
        HexBroadsides x = Scenes.sea(12, 12);
        x.addShip(0, 6, 0, 60, guns, 60);
        x.addShip(1, 6 + 12 * distance, 0, 60, 12, 60);
        return x;
    }

    private static void force() {
        Edge.test("The force is (number of these guns) * (7 - d)", () -> {
            for (int d = 1; d <= 6; d++) {
                Due.is("12 guns at the distance " + d, apart(d, 12).force(0, true, 1), 12 * (7 - d));
                Due.is("1 gun at the distance " + d, apart(d, 1).force(0, true, 1), 7 - d);
            }
            HexBroadsides x = Scenes.hit(60);
            x.addShip(0, 64, 0, 60, 12, 60);
            Due.is("6 guns are left on the left", x.force(1, false, 0), 36);
            Due.is("12 guns are left on the right", x.force(1, true, 2), 72);
        });
        Edge.test("twice as much if the shot rakes: if the bearing of the firing ship, as seen from the target, is the"
                + " heading of the target and it lies on a line", () -> {
            for (int k = 0; k < 6; k++) {
                int heading = (k + 5) % 6;
                int back = (k + 3) % 6;
                Due.is("over the bow, on a line", pair(heading, around(k, 2, 0), back).force(0, true, 1), 120);
                Due.is("one heading more", pair(heading, around(k, 2, 0), (back + 1) % 6).force(0, true, 1), 60);
                Due.is("one heading less", pair(heading, around(k, 2, 0), (back + 5) % 6).force(0, true, 1), 60);
                Due.is("that bearing, off the line", pair(heading, around(k, 1, 1), back).force(0, true, 1), 60);
            }
            Edge.answers("fire that rakes", 36, () -> heading(4), x -> x.fire(0, true, 1, 0));
        });
        Edge.test("or the opposite of it and on a line.", () -> {
            for (int k = 0; k < 6; k++) {
                int heading = (k + 5) % 6;
                Due.is("over the stern, on a line", pair(heading, around(k, 2, 0), k).force(0, true, 1), 120);
                Due.is("one heading more", pair(heading, around(k, 2, 0), (k + 1) % 6).force(0, true, 1), 60);
                Due.is("one heading less", pair(heading, around(k, 2, 0), (k + 5) % 6).force(0, true, 1), 60);
                Due.is("that bearing, off the line", pair(heading, around(k, 1, 1), k).force(0, true, 1), 60);
            }
            Edge.answers("fire that rakes", 36, () -> heading(1), x -> x.fire(0, true, 1, 0));
        });
    }

    /** The duel in which ship 1 has this heading. */
    private static HexBroadsides heading(int heading) {
        HexBroadsides x = Scenes.lone(44, 0);
        x.addShip(1, 54, heading, 60, 12, 60);
        return x;
    }

    private static void aims() {
        Edge.test("By the aim: 0 hull: the hull loses force / 4", () -> {
            int[][] due = {{4, 1, 0}, {3, 1, 1}, {4, 2, 1}, {5, 3, 1}, {5, 4, 2}, {1, 12, 18}, {6, 1, 0}};
            for (int[] d : due) {
                HexBroadsides x = apart(d[0], d[1]);
                String what = d[1] + " guns at the distance " + d[0];
                Due.is(what, x.fire(0, true, 1, 0), d[2]);
                Due.is(what + ": hull", x.ship(1, 3), 60 - d[2]);
                Due.is(what + ": sails", x.ship(1, 4), 20);
                Due.is(what + ": crew", x.ship(1, 7), 60);
            }
        });
        Edge.test("and the guns of the target on the side to which the shot comes lose force / 12 (the left ones if"
                + " the firing ship is in its left arc, the right ones if it is in its right arc, none otherwise)", () -> {
            int[] left = {6, 12, 12, 12, 12, 6};
            int[] right = {12, 12, 6, 6, 12, 12};
            int[] leftOffTheLine = {7, 12, 12, 12, 12, 12};
            int[] rightOffTheLine = {12, 12, 12, 7, 12, 12};
            for (int heading = 0; heading < 6; heading++) {
                HexBroadsides x = heading(heading);
                x.fire(0, true, 1, 0);
                Due.is("left guns at the heading " + heading, x.ship(1, 5), left[heading]);
                Due.is("right guns at the heading " + heading, x.ship(1, 6), right[heading]);
                HexBroadsides y = Scenes.lone(44, 0);
                y.addShip(1, 63, heading, 60, 12, 60);
                y.fire(0, true, 1, 0);
                Due.is("off the line: left guns at the heading " + heading, y.ship(1, 5), leftOffTheLine[heading]);
                Due.is("off the line: right guns at the heading " + heading, y.ship(1, 6), rightOffTheLine[heading]);
            }
            Due.is("left guns behind a force of 11", gunsBehind(11, 0).ship(1, 5), 12);
            Due.is("left guns behind a force of 12", gunsBehind(12, 0).ship(1, 5), 11);
            Due.is("right guns behind a force of 11", gunsBehind(11, 3).ship(1, 6), 12);
            Due.is("right guns behind a force of 12", gunsBehind(12, 3).ship(1, 6), 11);
            Due.is("a ship that sinks loses guns too", Scenes.hit(18).ship(1, 5), 6);
        });
        Edge.test("1 sails: the sails lose force / 6", () -> {
            int[][] due = {{6, 5, 0}, {6, 6, 1}, {6, 11, 1}, {6, 12, 2}, {1, 12, 12}, {2, 7, 5}};
            for (int[] d : due) {
                HexBroadsides x = apart(d[0], d[1]);
                String what = d[1] + " guns at the distance " + d[0];
                Due.is(what, x.fire(0, true, 1, 1), d[2]);
                Due.is(what + ": sails", x.ship(1, 4), 20 - d[2]);
                Due.is(what + ": hull", x.ship(1, 3), 60);
                Due.is(what + ": left guns", x.ship(1, 5), 12);
            }
        });
        Edge.test("2 crew (not possible at a distance above 2): the crew loses force / 5", () -> {
            int[][] due = {{1, 1, 1}, {1, 4, 4}, {1, 5, 6}, {1, 12, 14}, {2, 1, 1}, {2, 12, 12}};
            for (int[] d : due) {
                HexBroadsides x = apart(d[0], d[1]);
                String what = d[1] + " guns at the distance " + d[0];
                Due.is(what, x.fire(0, true, 1, 2), d[2]);
                Due.is(what + ": crew", x.ship(1, 7), 60 - d[2]);
                Due.is(what + ": hull", x.ship(1, 3), 60);
                Due.is(what + ": left guns", x.ship(1, 5), 12);
            }
            Edge.refused("fire at the crew at the distance 3", Edge.STATE, () -> apart(3, 12), x -> x.fire(0, true, 1, 2));
            Edge.answers("fire at the sails at the distance 3", 8, () -> apart(3, 12), x -> x.fire(0, true, 1, 1));
        });
        Edge.test("but keeps at least 1.", () -> {
            int[][] due = {{16, 14, 2}, {15, 14, 1}, {14, 13, 1}, {2, 1, 1}, {1, 0, 1}};
            for (int[] d : due) {
                HexBroadsides x = Scenes.duel(60, 12, d[0]);
                Due.is("14 of a crew of " + d[0], x.fire(0, true, 1, 2), d[1]);
                Due.is("the crew that is left of " + d[0], x.ship(1, 7), d[2]);
            }
        });
    }

    /** The target has this heading, and was hit with this force. */
    private static HexBroadsides gunsBehind(int force, int heading) {
        HexBroadsides x = Scenes.sea(12, 12);
        x.addShip(0, 6, 0, 60, force, 60);
        x.addShip(1, 78, heading, 60, 12, 60);
        x.fire(0, true, 1, 0);
        return x;
    }

    private static void behindTheShot() {
        Edge.test("Nothing falls below 0.", () -> {
            HexBroadsides x = Scenes.duel(17, 5, 60);
            Due.is("18 of a hull of 17", x.fire(0, true, 1, 0), 17);
            Due.is("the hull", x.ship(1, 3), 0);
            Due.is("6 of 5 left guns", x.ship(1, 5), 0);
            HexBroadsides y = Scenes.lone(44, 0);
            y.addShip(1, 54, 3, 60, 5, 60);
            y.fire(0, true, 1, 0);
            Due.is("6 of 5 right guns", y.ship(1, 6), 0);
            HexBroadsides z = Scenes.sails(10);
            z.endRound();
            Due.is("10 of 10 sails", z.fire(1, true, 0, 1), 10);
            Due.is("the sails", z.ship(0, 4), 0);
            Due.is("24 of no sails", rakedOnce().fire(0, true, 1, 1), 0);
        });
        Edge.test("Behind it the wait of the fired guns is 1 if the crew is at least half of its first one (2 * crew at"
                + " least the first crew), otherwise 2.", () -> {
            int[][] due = {{20, 10, 1}, {20, 11, 2}, {21, 10, 1}, {21, 11, 2}, {1, 0, 1}, {2, 1, 1}, {3, 2, 2},
                {12, 6, 1}, {12, 7, 2}, {60, 0, 1}};
            for (int[] d : due) {
                HexBroadsides x = new HexBroadsides();
                x.addShip(0, 44, 0, 60, 12, d[0]);
                x.addShip(1, 64, 0, 60, d[1], 60);
                if (d[1] > 0) {
                    x.fire(1, false, 0, 2);
                }
                Due.is("the crew of " + d[0], x.ship(0, 7), d[0] - d[1]);
                x.fire(0, true, 1, 1);
                Due.is("the wait with " + (d[0] - d[1]) + " of " + d[0], x.ship(0, 10), d[2]);
                Due.is("the wait of the other guns", x.ship(0, 9), 0);
            }
        });
        Edge.test("A ship that sinks is grappled to none any more; nor is the other one.", () -> {
            HexBroadsides x = Scenes.duel(18, 12, 60);
            x.addShip(0, 64, 0, 60, 12, 60);
            x.addShip(1, 63, 0, 60, 12, 60);
            x.addShip(0, 62, 0, 60, 12, 60);
            x.grapple(3, 4);
            x.grapple(2, 1);
            Due.is("the shot that sinks it", x.fire(0, true, 1, 0), 18);
            Due.is("the ship that sinks", x.ship(1, 11), -1);
            Due.is("the other one", x.ship(2, 11), -1);
            Due.is("two more stay grappled", x.ship(3, 11), 4);
            Due.is("the other one moves again", x.ahead(2), 65);
            HexBroadsides y = Scenes.tied(60, 60);
            y.fire(0, true, 1, 0);
            Due.is("a shot that does not sink it", y.ship(0, 11), 1);
        });
        Edge.section("Boarding.");
    }

    /** Ship 1 has lost its sails and lies where it was, and the guns are loaded again. */
    private static HexBroadsides rakedOnce() {
        HexBroadsides x = heading(4);
        x.fire(0, true, 1, 1);
        x.setWind(0, 0);
        x.endRound();
        return x;
    }

    private static void grappling() {
        Edge.test("A ship can grapple a ship of the other side at the distance 1", () -> {
            for (int k = 0; k < 6; k++) {
                int next = around(k, 1, 0);
                Edge.answers("in the direction " + k, 2, () -> pair(0, next, 0), x -> x.grapple(0, 1));
                int far = around(k, 2, 0);
                Edge.refused("two cells off", Edge.STATE, () -> pair(0, far, 0), x -> x.grapple(0, 1));
                int aside = around(k, 1, 1);
                Edge.refused("two cells off, off the lines", Edge.STATE, () -> pair(0, aside, 0), x -> x.grapple(0, 1));
            }
            Edge.answers("by the side 1", 2, Scenes::duel, x -> x.grapple(1, 0));
            Edge.refused("a ship of the own side", Edge.STATE, () -> Scenes.fleet(2), x -> x.grapple(0, 1));
        });
        Edge.test("if both are afloat and not grappled.", () -> {
            Edge.answers("a ship with a hull of 1", 2, () -> Scenes.hit(19), x -> x.grapple(0, 1));
            Edge.refused("a ship that is sunk", Edge.STATE, () -> Scenes.hit(18), x -> x.grapple(0, 1));
            Edge.refused("by a ship that is sunk", Edge.STATE, () -> Scenes.hit(18), x -> x.grapple(1, 0));
            Edge.refused("the same again", Edge.STATE, () -> Scenes.tied(60, 60), x -> x.grapple(0, 1));
            Edge.refused("the other way round", Edge.STATE, () -> Scenes.tied(60, 60), x -> x.grapple(1, 0));
            Edge.Maker four = () -> {
                HexBroadsides x = Scenes.tied(60, 60);
                x.addShip(1, 45, 0, 60, 12, 60);
                x.addShip(0, 55, 0, 60, 12, 60);
                return x;
            };
            Edge.refused("by a ship that is grappled", Edge.STATE, four, x -> x.grapple(0, 2));
            Edge.refused("a ship that is grappled", Edge.STATE, four, x -> x.grapple(3, 1));
            HexBroadsides cut = four.make();
            cut.cut(0);
            Due.is("another one when it is cut", cut.grapple(0, 2), 2);
        });
    }

    private static void boarding() {
        Edge.test("Once in a round, a ship that is grappled can board the other one", () -> {
            Edge.Maker boarded = () -> {
                HexBroadsides x = Scenes.tied(60, 60);
                x.board(0);
                return x;
            };
            Edge.refused("board when not grappled", Edge.STATE, Scenes::duel, x -> x.board(0));
            Edge.answers("board", 0, () -> Scenes.tied(60, 60), x -> x.board(0));
            Edge.refused("board a second time", Edge.STATE, boarded, x -> x.board(0));
            Edge.answers("the other one boards in the same round", 0, boarded, x -> x.board(1));
            HexBroadsides next = boarded.make();
            next.endRound();
            Due.is("board in the next round", next.board(0), 0);
            Edge.refused("board when cut and grappled again", Edge.STATE, () -> {
                HexBroadsides x = boarded.make();
                x.cut(0);
                x.grapple(0, 1);
                return x;
            }, x -> x.board(0));
        });
        Edge.test("with the crews a of the boarding ship and b of the other one, the crew of the other one loses"
                + " (a + 2) / 3, and that of the boarding one (b + 3) / 4, both at the same time", () -> {
            int[][] due = {{60, 60, 45, 40}, {30, 20, 25, 10}, {31, 21, 25, 10}, {32, 24, 26, 13}, {33, 25, 26, 14},
                {34, 26, 27, 14}, {30, 11, 27, 1}, {10, 17, 5, 13}};
            for (int[] d : due) {
                HexBroadsides x = Scenes.tied(d[0], d[1]);
                String what = d[0] + " against " + d[1];
                Due.is(what, x.board(0), 0);
                Due.is(what + ": the boarding crew", x.ship(0, 7), d[2]);
                Due.is(what + ": the other crew", x.ship(1, 7), d[3]);
            }
        });
        Edge.test("and the boarding one keeps at least 1.", () -> {
            int[][] due = {{16, 57, 1, 51}, {17, 57, 2, 51}, {15, 57, 1, 52}, {14, 60, 1, 55}, {1, 60, 1, 59}};
            for (int[] d : due) {
                HexBroadsides x = Scenes.tied(d[0], d[1]);
                String what = d[0] + " against " + d[1];
                Due.is(what, x.board(0), 0);
                Due.is(what + ": the boarding crew", x.ship(0, 7), d[2]);
                Due.is(what + ": the other crew", x.ship(1, 7), d[3]);
            }
        });
    }

    private static void taking() {
        Edge.test("If the other crew is 0 or less then, the ship is taken: it changes to the side of the boarding"
                + " one", () -> {
            int[][] due = {{30, 11, 0, 1}, {30, 10, 1, 0}, {30, 9, 1, 0}, {60, 1, 1, 0}, {60, 21, 0, 1}};
            for (int[] d : due) {
                HexBroadsides x = Scenes.tied(d[0], d[1]);
                String what = d[0] + " against " + d[1];
                Due.is(what, x.board(0), d[2]);
                Due.is(what + ": side", x.ship(1, 0), d[3]);
                Due.is(what + ": ships of the side 1", x.value(7), d[3]);
            }
            HexBroadsides y = Scenes.tied(10, 30);
            Due.is("a ship of the side 0 is taken", y.board(1), 1);
            Due.is("its side", y.ship(0, 0), 1);
            HexBroadsides z = Scenes.tied(60, 20);
            z.fire(1, false, 0, 1);
            z.board(0);
            int[] prize = {0, 54, 0, 60, 20, 12, 12, 14, 4, 1, 0, -1, 4, 0, 0};
            for (int what = 0; what < prize.length; what++) {
                Due.is("the prize: ship(1, " + what + ")", z.ship(1, what), prize[what]);
            }
        });
        Edge.test("with c as the crew of the boarding one that is left, the smaller one of (c + 3) / 4 and c - 1 goes"
                + " over to it and is its crew (if that is 0, its crew is 1 all the same)", () -> {
            int[][] due = {{1, 1, 1, 1}, {2, 1, 1, 1}, {3, 1, 1, 1}, {4, 1, 2, 1}, {5, 1, 3, 1}, {6, 1, 3, 2},
                {9, 1, 6, 2}, {10, 1, 6, 3}, {30, 10, 20, 7}, {60, 20, 41, 14}, {60, 1, 44, 15}};
            for (int[] d : due) {
                HexBroadsides x = Scenes.tied(d[0], d[1]);
                String what = d[0] + " against " + d[1];
                Due.is(what, x.board(0), 1);
                Due.is(what + ": the boarding crew", x.ship(0, 7), d[2]);
                Due.is(what + ": the crew of the prize", x.ship(1, 7), d[3]);
            }
        });
        Edge.test("they are not grappled any more.", () -> {
            HexBroadsides x = Scenes.tied(60, 1);
            x.addShip(1, 20, 0, 60, 12, 60);
            x.addShip(0, 21, 0, 60, 12, 60);
            x.grapple(2, 3);
            x.board(0);
            Due.is("the boarding one", x.ship(0, 11), -1);
            Due.is("the prize", x.ship(1, 11), -1);
            Due.is("two others", x.ship(2, 11), 3);
            Due.is("the prize moves", x.ahead(1), 55);
            Due.is("the boarding one moves", x.ahead(0), 45);
        });
    }
}
