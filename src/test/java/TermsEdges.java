/** The first sections of the document, up to "Rounds." of its terms. */
final class TermsEdges {
    private TermsEdges() {
    }

    static void run() {
        whatItIs();
        Edge.section("## Terms");
        seaSize();
        seaMoves();
        seaDistanceAndFree();
        wind();
        shipNumbers();
        shipStates();
        shipSpeed();
        rounds();
        roundsAhead();
        roundsTurning();
    }

    private static void whatItIs() {
        Edge.section("# HexBroadsides");
        Edge.section("## What it is");
        Edge.plain("A sailing ship game on a sea of hexagons: wind, moves by headings to the wind, tacks through the"
                + " wind, rocks, arcs of guns on both sides, raking, damage by parts, loading, grappling and boarding"
                + " by crews, ships that drift and sink, reachable cells, and orders that are read from a text.",
                "it names what the rest tells");
        Edge.test("a / b means division rounded down; all divided numbers are 0 or more.", () -> {
            HexBroadsides x = new HexBroadsides();
            x.addShip(0, 44, 0, 60, 3, 60);
            x.addShip(1, 54, 0, 60, 12, 60);
            Due.is("18 / 4 of the hull", x.fire(0, true, 1, 0), 4);
            Due.is("12 - 18 / 12 left guns", x.ship(1, 5), 11);
            x.undo();
            Due.is("18 / 5 of the crew", x.fire(0, true, 1, 2), 3);
            x.undo();
            Due.is("18 / 6 of the sails", x.fire(0, true, 1, 1), 3);
            x.setWind(1, 1);
            Due.is("speed (3 * 1 * 17 + 19) / 20", x.ship(1, 12), 3);
            HexBroadsides y = Scenes.tied(2, 4);
            y.board(0);
            Due.is("4 - (2 + 2) / 3 of the other crew", y.ship(1, 7), 3);
            Due.is("2 - (4 + 3) / 4 of the own crew", y.ship(0, 7), 1);
        });
        Edge.test("An object is used for at most 512 calls after it has been made", () -> {
            HexBroadsides x = new HexBroadsides();
            for (int i = 1; i <= 511; i++) {
                x.endRound();
            }
            Due.is("value(4), the call 512", x.value(4), 512);
        });
        Edge.plain("what later calls answer is free.", "nothing is asked for");
        Edge.section("## The public face");
        Page.skipTo("## Terms");
    }

    private static void seaSize() {
        Edge.section("Sea.");
        Edge.test("The sea has W columns, 4 to 12, initially 10", () -> {
            Due.is("columns of a new sea", new HexBroadsides().value(0), 10);
            for (int columns = 4; columns <= 12; columns++) {
                HexBroadsides x = Scenes.sea(columns, 5);
                Due.is("columns", x.value(0), columns);
                Due.is("the last cell", x.at(5 * columns - 1), -1);
                int cells = 5 * columns;
                Edge.refused("at(" + cells + ")", Edge.BOUNDS, () -> Scenes.sea(cells / 5, 5), y -> y.at(cells));
            }
            Edge.refused("begin(3, 8)", Edge.ARGUMENT, HexBroadsides::new, y -> y.begin(3, 8));
            Edge.refused("begin(13, 8)", Edge.ARGUMENT, HexBroadsides::new, y -> y.begin(13, 8));
        });
        Edge.test("and H rows, 4 to 12, initially 8", () -> {
            Due.is("rows of a new sea", new HexBroadsides().value(1), 8);
            for (int rows = 4; rows <= 12; rows++) {
                HexBroadsides x = Scenes.sea(7, rows);
                Due.is("rows", x.value(1), rows);
                Due.is("the last cell", x.at(7 * rows - 1), -1);
                int cells = 7 * rows;
                Edge.refused("at(" + cells + ")", Edge.BOUNDS, () -> Scenes.sea(7, cells / 7), y -> y.at(cells));
            }
            Edge.refused("begin(10, 3)", Edge.ARGUMENT, HexBroadsides::new, y -> y.begin(10, 3));
            Edge.refused("begin(10, 13)", Edge.ARGUMENT, HexBroadsides::new, y -> y.begin(10, 13));
        });
        Edge.test("the cell in row r and column c has the number r * W + c.", () -> {
            for (int columns = 4; columns <= 12; columns++) {
                HexBroadsides x = Scenes.sea(columns, 4);
                int last = columns - 1;
                Due.is("from the first to the last cell of the row 0", x.bearing(0, last), 10);
                Due.is("their distance", x.distance(0, last), last);
                Due.is("from the row 0 to the row 1", x.bearing(0, columns), 11);
                Due.is("their distance", x.distance(0, columns), 1);
                Due.is("the next number is far off at the end of a row", x.distance(last, columns), last);
                Due.is("the last cell from the first", x.distance(0, 4 * columns - 1), last + 3);
            }
        });
        Edge.test("The directions are 0 to 5", () -> {
            Due.is("a heading 0", Scenes.lone(44, 0).ship(0, 2), 0);
            Due.is("a heading 5", Scenes.lone(44, 5).ship(0, 2), 5);
            HexBroadsides x = new HexBroadsides();
            x.setWind(5, 2);
            Due.is("a wind 5", x.value(2), 5);
            Edge.refused("a heading 6", Edge.ARGUMENT, HexBroadsides::new, y -> y.addShip(0, 44, 6, 60, 12, 60));
            Edge.refused("a wind 6", Edge.ARGUMENT, HexBroadsides::new, y -> y.setWind(6, 2));
        });
    }

    private static void seaMoves() {
        Edge.test("one move in the direction 0 leads from row r and column c to (r, c + 1)", () -> moves(0, 0, 1));
        Edge.test("1 to (r + 1, c)", () -> moves(1, 1, 0));
        Edge.test("2 to (r + 1, c - 1)", () -> moves(2, 1, -1));
        Edge.test("3 to (r, c - 1)", () -> moves(3, 0, -1));
        Edge.test("4 to (r - 1, c)", () -> moves(4, -1, 0));
        Edge.test("5 to (r - 1, c + 1).", () -> moves(5, -1, 1));
        Edge.test("All directions are taken modulo 6.", () -> {
            Due.is("1 more than 5", Scenes.lone(44, 5).turn(0, true), 0);
            Due.is("1 less than 0", Scenes.lone(44, 0).turn(0, false), 5);
            HexBroadsides x = Scenes.lone(44, 5);
            x.addShip(1, 45, 0, 60, 12, 60);
            x.addShip(1, 54, 0, 60, 12, 60);
            x.addShip(1, 43, 0, 60, 12, 60);
            x.addShip(1, 34, 0, 60, 12, 60);
            Due.is("heading 5: the bearing 0 is h + 1", x.force(0, true, 1) > 0 ? 1 : 0, 1);
            Due.is("heading 5: the line 1 is h + 2", x.force(0, true, 2) > 0 ? 1 : 0, 1);
            Due.is("heading 5: the bearing 3 is h + 4", x.force(0, false, 3) > 0 ? 1 : 0, 1);
            Due.is("heading 5: the line 4 is h + 5", x.force(0, false, 4) > 0 ? 1 : 0, 1);
            Due.is("two moves in the direction 5", x.bearing(44, 26), 15);
            Due.is("one in the direction 5 and one in the direction 0", x.bearing(44, 36), 5);
            Due.is("one in the direction 5 and two in the direction 0", x.bearing(44, 37), 5);
            Due.is("heading 5 is next to the wind 0", x.ship(0, 13), 1);
            x.setWind(1, 2);
            Due.is("heading 5 in the wind 1", x.ship(0, 13), 2);
            Due.is("heading 0 in the wind 5", angle(0, 5), 1);
            Due.is("heading 0 in the wind 4", angle(0, 4), 2);
        });
    }

    /** From each cell of a small sea with the wind behind: only where there is a cell, never round. */
    private static void moves(int direction, int rowStep, int columnStep) {
        for (int cell = 0; cell < 5 * 4; cell++) {
            int start = cell;
            int row = cell / 5 + rowStep;
            int column = cell % 5 + columnStep;
            boolean there = row >= 0 && row < 4 && column >= 0 && column < 5;
            Edge.answers("ahead from " + cell, there ? row * 5 + column : "throws.IllegalStateException", () -> {
                HexBroadsides x = Scenes.sea(5, 4);
                x.setWind(direction, 1);
                x.addShip(0, start, direction, 60, 12, 60);
                return x;
            }, x -> x.ahead(0));
        }
    }

    private static int angle(int heading, int wind) {
        HexBroadsides x = Scenes.lone(44, heading);
        x.setWind(wind, 2);
        return x.ship(0, 13);
    }

    private static void seaDistanceAndFree() {
        Edge.test("The distance of two cells is the smallest number of moves between them (as if there were no"
                + " borders, rocks and ships)", () -> {
            int[] walked = walkedFrom(5, 6);
            for (int to = 0; to < 144; to++) {
                int cell = to;
                Edge.answers("distance(66, " + to + ")", walked[to], () -> Scenes.sea(12, 12), x -> x.distance(66, cell));
            }
            HexBroadsides x = Scenes.lone(0, 0);
            x.setRock(1, true);
            x.addShip(1, 10, 0, 60, 12, 60);
            Due.is("out of a corner behind a rock and a ship", x.distance(0, 2), 2);
            Due.is("out of a corner behind a rock and a ship", x.distance(0, 11), 2);
            Due.is("to the rock", x.distance(0, 1), 1);
        });
        Edge.test("with x and y the differences of rows and of columns, the greatest one of the absolute values of x,"
                + " y and x + y.", () -> {
            HexBroadsides x = Scenes.sea(12, 12);
            int[][] due = {{3, -1, 3}, {-3, 1, 3}, {1, -3, 3}, {-1, 3, 3}, {1, 2, 3}, {-1, -2, 3}, {3, -3, 3},
                {-3, 3, 3}, {3, 0, 3}, {0, -3, 3}, {5, 5, 10}, {-5, -6, 11}, {0, 0, 0}};
            for (int[] d : due) {
                Due.is("x " + d[0] + " and y " + d[1], x.distance(66, 66 + 12 * d[0] + d[1]), d[2]);
            }
            Due.is("from corner to corner", x.distance(0, 143), 22);
            Due.is("from corner to corner", x.distance(11, 132), 11);
        });
        Edge.test("A cell can be a rock.", () -> {
            HexBroadsides x = Scenes.sea(4, 4);
            for (int cell = 0; cell < 16; cell++) {
                x.setRock(cell, true);
                Due.is("at(" + cell + ")", x.at(cell), -2);
            }
            Due.is("rocks everywhere", x.value(8), 16);
        });
        Edge.test("A cell is free if it is on the sea, no rock, and no ship that is afloat is on it.", () -> {
            HexBroadsides x = Scenes.hit(19);
            x.setRock(55, true);
            Due.is("a cell of the sea", x.at(45), -1);
            Due.is("a rock", x.at(55), -2);
            Due.is("a ship with a hull of 1", x.at(54), 1);
            Due.is("a ship that is sunk", Scenes.hit(18).at(54), -1);
            Due.is("a ship is added where one is sunk", Scenes.hit(18).addShip(0, 54, 0, 1, 0, 1), 2);
            Edge.refused("a ship on a ship with a hull of 1", Edge.STATE, () -> Scenes.hit(19),
                    y -> y.addShip(0, 54, 0, 1, 0, 1));
            Edge.refused("a ship off the sea", Edge.BOUNDS, () -> Scenes.hit(19), y -> y.addShip(0, 80, 0, 1, 0, 1));
        });
    }

    /** The moves to all cells of a sea of 12 to 12, walked over a greater one without borders. */
    private static int[] walkedFrom(int row, int column) {
        int[] rowStep = {0, 1, 1, 0, -1, -1};
        int[] columnStep = {1, 0, -1, -1, 0, 1};
        int[][] moves = new int[60][60];
        moves[row + 24][column + 24] = 1;
        for (int done = 1; done < 24; done++) {
            for (int r = 1; r < 59; r++) {
                for (int c = 1; c < 59; c++) {
                    for (int k = 0; moves[r][c] == done && k < 6; k++) {
                        int next = moves[r + rowStep[k]][c + columnStep[k]];
                        moves[r + rowStep[k]][c + columnStep[k]] = next == 0 ? done + 1 : next;
                    }
                }
            }
        }
        int[] walked = new int[144];
        for (int cell = 0; cell < 144; cell++) {
            walked[cell] = moves[cell / 12 + 24][cell % 12 + 24] - 1;
        }
        return walked;
    }

    private static void wind() {
        Edge.section("Wind.");
        Edge.test("The wind blows in a direction, initially 0", () -> {
            Due.is("the first direction", new HexBroadsides().value(2), 0);
            HexBroadsides x = Scenes.hit(60);
            x.setWind(3, 3);
            x.begin(10, 8);
            Due.is("the direction of the next sea", x.value(2), 0);
        });
        Edge.test("with a strength, 0 to 3, initially 2.", () -> {
            HexBroadsides x = new HexBroadsides();
            Due.is("the first strength", x.value(3), 2);
            x.setWind(0, 0);
            Due.is("the least strength", x.value(3), 0);
            x.setWind(0, 3);
            Due.is("the greatest strength", x.value(3), 3);
            x.begin(10, 8);
            Due.is("the strength of the next sea", x.value(3), 2);
            Edge.refused("setWind(0, -1)", Edge.ARGUMENT, HexBroadsides::new, y -> y.setWind(0, -1));
            Edge.refused("setWind(0, 4)", Edge.ARGUMENT, HexBroadsides::new, y -> y.setWind(0, 4));
        });
    }

    private static void shipNumbers() {
        Edge.section("Ships.");
        Edge.test("There are at most 8 ships, numbered from 0.", () -> {
            HexBroadsides x = new HexBroadsides();
            for (int i = 0; i < 8; i++) {
                Due.is("the number of the next ship", x.addShip(0, i, 0, 1, 0, 1), i);
            }
            Due.is("the last one", x.ship(7, 1), 7);
            Edge.refused("a ninth ship", Edge.STATE, () -> Scenes.fleet(8), y -> y.addShip(0, 20, 0, 1, 0, 1));
            Edge.refused("ship(8, 0)", Edge.BOUNDS, () -> Scenes.fleet(8), y -> y.ship(8, 0));
            Edge.refused("ship(7, 0) of 7", Edge.BOUNDS, () -> Scenes.fleet(7), y -> y.ship(7, 0));
        });
        Edge.test("A ship has a side, 0 or 1", () -> {
            Due.is("side 0", added(0, 1, 0, 1).ship(0, 0), 0);
            Due.is("side 1", added(1, 1, 0, 1).ship(0, 0), 1);
            Edge.refused("side -1", Edge.ARGUMENT, HexBroadsides::new, x -> x.addShip(-1, 44, 0, 1, 0, 1));
            Edge.refused("side 2", Edge.ARGUMENT, HexBroadsides::new, x -> x.addShip(2, 44, 0, 1, 0, 1));
        });
        Edge.test("a cell and a heading, a direction", () -> {
            Due.is("the cell 0", Scenes.lone(0, 5).ship(0, 1), 0);
            Due.is("the cell 79", Scenes.lone(79, 5).ship(0, 1), 79);
            Due.is("the heading", Scenes.lone(79, 5).ship(0, 2), 5);
        });
        Edge.test("a hull, 1 to 60", () -> {
            Due.is("a hull of 1", added(0, 1, 0, 1).ship(0, 3), 1);
            Due.is("a hull of 60", added(0, 60, 0, 1).ship(0, 3), 60);
            Edge.refused("a hull of 0", Edge.ARGUMENT, HexBroadsides::new, x -> x.addShip(0, 44, 0, 0, 0, 1));
            Edge.refused("a hull of 61", Edge.ARGUMENT, HexBroadsides::new, x -> x.addShip(0, 44, 0, 61, 0, 1));
        });
        Edge.test("sails, 0 to 20", () -> {
            Due.is("the greatest sails", Scenes.sails(20).ship(0, 4), 20);
            Due.is("one sail", Scenes.sails(1).ship(0, 4), 1);
            Due.is("the least sails", Scenes.sails(0).ship(0, 4), 0);
        });
        Edge.test("guns on the left and on the right, 0 to 12 each", () -> {
            Due.is("no guns on the left", added(0, 1, 0, 1).ship(0, 5), 0);
            Due.is("no guns on the right", added(0, 1, 0, 1).ship(0, 6), 0);
            Due.is("12 guns on the left", added(0, 1, 12, 1).ship(0, 5), 12);
            Due.is("12 guns on the right", added(0, 1, 12, 1).ship(0, 6), 12);
            Due.is("each for itself: left", Scenes.hit(60).ship(1, 5), 6);
            Due.is("each for itself: right", Scenes.hit(60).ship(1, 6), 12);
            Edge.refused("-1 guns", Edge.ARGUMENT, HexBroadsides::new, x -> x.addShip(0, 44, 0, 1, -1, 1));
            Edge.refused("13 guns", Edge.ARGUMENT, HexBroadsides::new, x -> x.addShip(0, 44, 0, 1, 13, 1));
        });
    }

    private static HexBroadsides added(int side, int hull, int guns, int crew) {
        HexBroadsides x = new HexBroadsides();
        x.addShip(side, 44, 0, hull, guns, crew);
        return x;
    }

    private static void shipStates() {
        Edge.test("a crew, 1 to 60 (the values with which it was added are its first ones)", () -> {
            Due.is("a crew of 1", added(0, 1, 0, 1).ship(0, 7), 1);
            Due.is("a crew of 60", added(0, 1, 0, 60).ship(0, 7), 60);
            Edge.refused("a crew of 0", Edge.ARGUMENT, HexBroadsides::new, x -> x.addShip(0, 44, 0, 1, 0, 0));
            Edge.refused("a crew of 61", Edge.ARGUMENT, HexBroadsides::new, x -> x.addShip(0, 44, 0, 1, 0, 61));
            HexBroadsides x = Scenes.tied(60, 60);
            x.board(0);
            x.board(1);
            Due.is("the crew that is left", x.ship(1, 7), 28);
            x.fire(1, false, 0, 1);
            Due.is("28 is measured by 60, not by 40", x.ship(1, 9), 2);
            HexBroadsides y = Scenes.tied(6, 3);
            y.addShip(1, 64, 0, 60, 12, 60);
            y.board(0);
            y.endRound();
            y.board(0);
            Due.is("the crew of a prize", y.ship(1, 7), 1);
            y.fire(1, true, 2, 1);
            Due.is("1 is measured by the 3 of before it was taken", y.ship(1, 10), 2);
        });
        Edge.test("points for moves", () -> Due.is("points", Scenes.lone(44, 1).ship(0, 8), 6));
        Edge.test("for each of its two sides of guns a wait (0: loaded).", () -> {
            HexBroadsides x = Scenes.duel();
            Due.is("left", x.ship(0, 9), 0);
            Due.is("right", x.ship(0, 10), 0);
            x.fire(0, true, 1, 1);
            Due.is("left, behind a shot to the right", x.ship(0, 9), 0);
            Due.is("right, behind a shot to the right", x.ship(0, 10), 1);
            Edge.refused("a shot with a wait", Edge.STATE, () -> Scenes.hit(60), y -> y.fire(0, true, 1, 0));
        });
        Edge.test("A ship is afloat as long as its hull is above 0", () -> {
            HexBroadsides x = Scenes.hit(19);
            Due.is("a hull of 1", x.ship(1, 3), 1);
            Due.is("its cell", x.ship(1, 1), 54);
            Due.is("ships afloat", x.value(7), 1);
        });
        Edge.test("otherwise it is sunk, and off the sea.", () -> {
            HexBroadsides x = Scenes.hit(18);
            Due.is("a hull of 0", x.ship(1, 3), 0);
            Due.is("its cell", x.ship(1, 1), -1);
            Due.is("ships afloat", x.value(7), 0);
            Due.is("the cell is free", x.at(54), -1);
            x.turn(0, true);
            Due.is("and another one moves there", x.ahead(0), 54);
        });
        Edge.test("Two ships can be grappled to each other", () -> {
            HexBroadsides x = Scenes.tied(60, 60);
            Due.is("the one", x.ship(0, 11), 1);
            Due.is("the other", x.ship(1, 11), 0);
        });
        Edge.test("a ship is grappled to one other at most.", () -> {
            Edge.Maker three = () -> {
                HexBroadsides x = Scenes.tied(60, 60);
                x.addShip(1, 45, 0, 60, 12, 60);
                x.addShip(0, 55, 0, 60, 12, 60);
                return x;
            };
            Edge.refused("grapple by a ship that is grappled", Edge.STATE, three, x -> x.grapple(0, 2));
            Edge.refused("grapple of a ship that is grappled", Edge.STATE, three, x -> x.grapple(2, 0));
            Edge.answers("grapple between two others", 4, three, x -> x.grapple(2, 3));
        });
    }

    private static void shipSpeed() {
        Edge.test("The angle of a heading to the wind is 0 if it is the direction of the wind, 1 if it is next to"
                + " that, 2, or 3 if it is opposite.", () -> {
            int[] due = {0, 1, 2, 3, 2, 1};
            for (int heading = 0; heading < 6; heading++) {
                for (int wind = 0; wind < 6; wind++) {
                    Due.is("heading " + heading + " in the wind " + wind, angle(heading, wind),
                            due[(heading + 6 - wind) % 6]);
                }
            }
        });
        Edge.test("The factor is 2, 3, 1 or 0 for the angles 0, 1, 2 and 3.", () -> {
            int[] due = {2, 3, 1, 0, 1, 3};
            for (int heading = 0; heading < 6; heading++) {
                HexBroadsides x = Scenes.lone(44, heading);
                x.setWind(0, 1);
                Due.is("the factor at the heading " + heading, x.ship(0, 12), due[heading]);
            }
        });
        Edge.test("The speed of a ship, also of one that is sunk, is (factor of its heading * strength * sails + 19)"
                + " / 20.", () -> {
            int[][] due = {{20, 1, 3, 9}, {20, 1, 0, 0}, {0, 1, 3, 0}, {1, 2, 1, 1}, {1, 1, 3, 1}, {7, 1, 1, 2},
                {7, 2, 3, 2}, {10, 0, 1, 1}, {20, 3, 3, 0}, {19, 2, 1, 1}, {19, 0, 3, 6}, {13, 1, 2, 4}};
            for (int[] d : due) {
                HexBroadsides x = Scenes.sails(d[0]);
                x.setWind(d[1], d[2]);
                Due.is("speed with " + d[0] + " sails in the wind " + d[1] + " of " + d[2], x.ship(0, 12), d[3]);
            }
            Due.is("speed of a sunk ship", Scenes.hit(18).ship(1, 12), 4);
        });
    }

    private static void rounds() {
        Edge.section("Rounds.");
        Edge.test("The round is initially 1.", () -> {
            HexBroadsides x = new HexBroadsides();
            Due.is("the first round", x.value(4), 1);
            x.endRound();
            x.begin(10, 8);
            Due.is("the round of the next sea", x.value(4), 1);
        });
        Edge.test("When a ship is added, and when a round begins, the points of a ship (also of one that is sunk)"
                + " become its speed", () -> {
            Due.is("added", Scenes.lone(44, 1).ship(0, 8), 6);
            HexBroadsides x = Scenes.hit(18);
            x.setWind(1, 3);
            Due.is("before the round ends", x.ship(0, 8), 4);
            x.endRound();
            Due.is("a ship that is afloat", x.ship(0, 8), 9);
            Due.is("a ship that is sunk", x.ship(1, 8), 9);
            HexBroadsides y = Scenes.duel();
            y.ahead(0);
            y.addShip(0, 0, 1, 60, 12, 60);
            Due.is("the one that is added", y.ship(2, 8), 6);
            Due.is("another one", y.ship(0, 8), 3);
            HexBroadsides z = Scenes.lone(44, 2);
            z.ahead(0);
            z.addShip(0, 0, 1, 60, 12, 60);
            Due.is("and the way that it has", z.turn(0, true), 3);
        });
        Edge.test("but at least 1 if it has sails above 0", () -> {
            Due.is("against the wind", Scenes.lone(44, 3).ship(0, 8), 1);
            HexBroadsides x = Scenes.lone(44, 3);
            x.ahead(x.addShip(1, 0, 0, 1, 0, 1));
            x.setWind(0, 0);
            x.endRound();
            Due.is("in a calm", x.ship(1, 8), 1);
            HexBroadsides y = Scenes.sails(1);
            y.setWind(3, 3);
            y.endRound();
            Due.is("one sail against the wind", y.ship(0, 8), 1);
            HexBroadsides z = Scenes.sails(0);
            z.endRound();
            Due.is("no sails", z.ship(0, 8), 0);
            HexBroadsides sunk = Scenes.hit(18);
            sunk.setWind(3, 3);
            sunk.endRound();
            Due.is("a sunk ship against the wind", sunk.ship(1, 8), 1);
        });
        Edge.test("and it has not moved yet.", () -> {
            Edge.refused("a tack of a ship that was added", Edge.STATE, () -> Scenes.lone(44, 2), x -> x.turn(0, true));
            Edge.Maker moved = () -> {
                HexBroadsides x = Scenes.lone(44, 2);
                x.ahead(0);
                x.endRound();
                return x;
            };
            Edge.refused("a tack with the way of the last round", Edge.STATE, moved, x -> x.turn(0, true));
            HexBroadsides x = moved.make();
            Due.is("ahead", x.ahead(0), 62);
            x.endRound();
            x.ahead(0);
            x.setWind(1, 3);
            Due.is("a turn that is no tack", x.turn(0, true), 3);
        });
        Edge.test("(Points that are left over are lost.)", () -> {
            HexBroadsides x = Scenes.lone(44, 1);
            Due.is("points that are left over", x.ship(0, 8), 6);
            x.setWind(0, 1);
            x.endRound();
            Due.is("points of the next round", x.ship(0, 8), 3);
            x.endRound();
            Due.is("and of the one behind it", x.ship(0, 8), 3);
        });
    }

    private static void roundsAhead() {
        Edge.test("Moving ahead costs 1 point", () -> {
            Edge.Maker calm = () -> {
                HexBroadsides x = new HexBroadsides();
                x.setWind(0, 0);
                x.addShip(0, 44, 0, 60, 12, 60);
                return x;
            };
            HexBroadsides x = calm.make();
            Due.is("ahead with 1 point", x.ahead(0), 45);
            Due.is("points", x.ship(0, 8), 0);
            Edge.refused("ahead with 0 points", Edge.STATE, () -> {
                HexBroadsides y = calm.make();
                y.ahead(0);
                return y;
            }, y -> y.ahead(0));
        });
        Edge.test("and leads to the next cell in the direction of the heading", () -> {
            int[] due = {45, 54, 53, 43, 34, 35};
            for (int heading = 0; heading < 6; heading++) {
                HexBroadsides x = new HexBroadsides();
                x.setWind(heading, 1);
                x.addShip(0, 44, heading, 60, 12, 60);
                Due.is("ahead with the heading " + heading, x.ahead(0), due[heading]);
                Due.is("the heading", x.ship(0, 2), heading);
            }
        });
        Edge.test("which must be free", () -> {
            Edge.refused("ahead onto a rock", Edge.STATE, () -> {
                HexBroadsides x = Scenes.lone(44, 0);
                x.setRock(45, true);
                return x;
            }, x -> x.ahead(0));
            Edge.refused("ahead onto a ship of the own side", Edge.STATE, () -> Scenes.fleet(2), x -> x.ahead(0));
            Edge.refused("ahead onto a ship with a hull of 1", Edge.STATE, () -> {
                HexBroadsides x = Scenes.hit(19);
                x.turn(0, true);
                return x;
            }, x -> x.ahead(0));
            Edge.refused("ahead off the sea", Edge.STATE, () -> Scenes.lone(49, 0), x -> x.ahead(0));
            Edge.answers("ahead to the last column", 49, () -> Scenes.lone(48, 0), x -> x.ahead(0));
        });
        Edge.test("it is not possible with the angle 3.", () -> {
            Edge.refused("ahead at the angle 3", Edge.STATE, () -> Scenes.lone(44, 3), x -> x.ahead(0));
            Edge.answers("ahead at the angle 2", 53, () -> Scenes.lone(44, 2), x -> x.ahead(0));
            Edge.answers("ahead at the angle 2", 34, () -> Scenes.lone(44, 4), x -> x.ahead(0));
        });
    }

    private static void roundsTurning() {
        Edge.test("Turning costs 1 point", () -> {
            Edge.Maker calm = () -> {
                HexBroadsides x = new HexBroadsides();
                x.setWind(0, 0);
                x.addShip(0, 44, 0, 60, 12, 60);
                return x;
            };
            HexBroadsides x = calm.make();
            Due.is("turn with 1 point", x.turn(0, true), 1);
            Due.is("points", x.ship(0, 8), 0);
            Edge.refused("turn with 0 points", Edge.STATE, () -> {
                HexBroadsides y = calm.make();
                y.turn(0, true);
                return y;
            }, y -> y.turn(0, false));
        });
        Edge.test("and changes the heading by 1 (to the left: 1 less; to the right: 1 more).", () -> {
            for (int heading = 0; heading < 6; heading++) {
                HexBroadsides x = new HexBroadsides();
                x.setWind(heading, 2);
                x.addShip(0, 44, heading, 60, 12, 60);
                Due.is("to the left from " + heading, x.turn(0, false), (heading + 5) % 6);
                x.undo();
                Due.is("to the right from " + heading, x.turn(0, true), (heading + 1) % 6);
                Due.is("the cell", x.ship(0, 1), 44);
            }
        });
        Edge.test("Turning to a heading with the angle 3 (a tack) is possible only if the ship has moved ahead in this"
                + " round at least once since it turned last, or since the round began.", TermsEdges::tack);
        Edge.test("(From the angle 3 it can always be turned.)", () -> {
            Edge.answers("to the right, not moved", 4, () -> Scenes.lone(44, 3), x -> x.turn(0, true));
            Edge.answers("to the left, not moved", 2, () -> Scenes.lone(44, 3), x -> x.turn(0, false));
            HexBroadsides x = Scenes.lone(44, 2);
            x.setWind(1, 3);
            x.endRound();
            x.ahead(0);
            x.setWind(0, 3);
            x.turn(0, true);
            Due.is("on behind a tack", x.turn(0, true), 4);
            x.undo();
            Due.is("back behind a tack", x.turn(0, false), 2);
        });
        Edge.test("A ship that is grappled, or has no sails, neither moves nor turns.", () -> {
            Edge.Maker tied = () -> Scenes.tied(60, 60);
            for (int ship = 0; ship < 2; ship++) {
                int n = ship;
                Edge.refused("ahead when grappled", Edge.STATE, tied, x -> x.ahead(n));
                Edge.refused("a turn when grappled", Edge.STATE, tied, x -> x.turn(n, true));
                Edge.refused("a turn when grappled", Edge.STATE, tied, x -> x.turn(n, false));
            }
            Due.is("points without sails", Scenes.sails(0).ship(0, 8), 4);
            Edge.refused("ahead without sails", Edge.STATE, () -> Scenes.sails(0), x -> x.ahead(0));
            Edge.refused("a turn without sails", Edge.STATE, () -> Scenes.sails(0), x -> x.turn(0, true));
            Edge.refused("a turn without sails", Edge.STATE, () -> Scenes.sails(0), x -> x.turn(0, false));
            Edge.answers("ahead with one sail", 55, () -> Scenes.sails(1), x -> x.ahead(0));
            Edge.answers("a turn with one sail", 1, () -> Scenes.sails(1), x -> x.turn(0, true));
        });
    }

    private static void tack() {
        Edge.Maker close = () -> {
            HexBroadsides x = new HexBroadsides();
            x.setWind(3, 3);
            x.addShip(0, 44, 2, 60, 12, 60);
            x.setWind(0, 3);
            return x;
        };
        Edge.Maker moved = () -> {
            HexBroadsides x = close.make();
            x.ahead(0);
            return x;
        };
        Edge.refused("a tack to the right, not moved", Edge.STATE, close, x -> x.turn(0, true));
        Edge.answers("a tack to the right, moved once", 3, moved, x -> x.turn(0, true));
        Edge.refused("a tack, moved before it turned last", Edge.STATE, () -> {
            HexBroadsides x = moved.make();
            x.turn(0, false);
            x.turn(0, true);
            return x;
        }, x -> x.turn(0, true));
        Edge.answers("a tack, moved again since it turned", 3, () -> {
            HexBroadsides x = close.make();
            x.turn(0, false);
            x.turn(0, true);
            x.ahead(0);
            return x;
        }, x -> x.turn(0, true));
        Edge.refused("a tack, moved in the last round", Edge.STATE, () -> {
            HexBroadsides x = moved.make();
            x.endRound();
            return x;
        }, x -> x.turn(0, true));
        Edge.answers("a tack, moved twice", 3, () -> {
            HexBroadsides x = moved.make();
            x.ahead(0);
            return x;
        }, x -> x.turn(0, true));
        Edge.refused("a tack to the left, not moved", Edge.STATE, () -> Scenes.lone(44, 4), x -> x.turn(0, false));
        Edge.answers("a turn to the angle 2, not moved", 2, () -> Scenes.lone(44, 1), x -> x.turn(0, true));
        Edge.refused("a tack with the way of another ship", Edge.STATE, () -> {
            HexBroadsides x = moved.make();
            x.addShip(0, 22, 2, 60, 12, 60);
            return x;
        }, x -> x.turn(1, true));
        wayAndOtherCalls();
    }

    /** Only moving ahead gives way, and only turning or the end of the round takes it. */
    private static void wayAndOtherCalls() {
        Edge.Question[] others = {
            x -> x.setRock(0, true), x -> x.setWind(0, 2), x -> x.setWind(1, 3) + x.setWind(0, 3),
            x -> x.addShip(1, 0, 0, 60, 12, 60) + x.ahead(2) + x.turn(2, true) + x.turn(2, false),
            x -> x.fire(0, false, 1, 0) + x.fire(1, true, 0, 0),
            x -> x.fire(0, false, 1, 1) + x.fire(1, true, 0, 1),
            x -> x.fire(0, false, 1, 2) + x.fire(1, true, 0, 2),
            x -> x.grapple(0, 1) + x.cut(0), x -> x.grapple(0, 1) + x.cut(1),
            x -> x.grapple(0, 1) + x.board(0) + x.board(1) + x.cut(0),
            x -> x.setRock(1, true) + x.undo(), x -> Due.order(x, "") + Due.order(x, "w1;w0;"),
            x -> x.begin(5, 5) + x.undo()
        };
        for (int i = 0; i < others.length; i++) {
            wayStays("calls " + i, 60, 60, others[i]);
        }
        wayStays("taking the ship 1", 60, 20, x -> x.grapple(0, 1) + x.board(0));
        wayStays("taking the ship 0", 20, 60, x -> x.grapple(0, 1) + x.board(1));
    }

    private static void wayStays(String what, int crew, int otherCrew, Edge.Question call) {
        for (int ship = 0; ship < 2; ship++) {
            int n = ship;
            HexBroadsides moved = abreast(44, crew, otherCrew);
            Due.is("ahead", moved.ahead(0) + moved.ahead(1), 53 + 54);
            HexBroadsides still = abreast(53, crew, otherCrew);
            Due.same(what + " moved and still", Due.answerOf(() -> call.ask(moved)), Due.answerOf(() -> call.ask(still)));
            Due.same("a tack of ship " + n + ", moved, behind " + what, Due.answerOf(() -> moved.turn(n, true)), "3");
            Due.same("a tack of ship " + n + ", not moved, behind " + what,
                    Due.answerOf(() -> still.turn(n, true)), "throws.IllegalStateException");
        }
    }

    /** Two enemies side by side at the angle 2, each in an arc of the other one. */
    private static HexBroadsides abreast(int cell, int crew, int otherCrew) {
        HexBroadsides x = new HexBroadsides();
        x.setWind(0, 3);
        x.addShip(0, cell, 2, 60, 12, crew);
        x.addShip(1, cell + 1, 2, 60, 12, otherCrew);
        return x;
    }
}
