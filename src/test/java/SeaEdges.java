/** Promises 1 to 10 of the document. */
final class SeaEdges {
    private SeaEdges() {
    }

    static void run() {
        newObject();
        begin();
        setRock();
        setWind();
        addShip();
        addShipRefused();
        value();
        ship();
        shipStates();
        at();
        distance();
        bearing();
    }

    private static void newObject() {
        Edge.section("## Promise 1: A new object");
        Edge.test("Creates a sea without rocks and ships, in round 1.", () -> {
            HexBroadsides x = new HexBroadsides();
            int[] due = {10, 8, 0, 2, 1, 0, 0, 0, 0, -1};
            for (int what = 0; what < due.length; what++) {
                Due.is("value(" + what + ")", x.value(what), due[what]);
            }
            for (int cell = 0; cell < 80; cell++) {
                Due.is("at(" + cell + ")", x.at(cell), -1);
            }
            Due.is("the length of the text", x.clearText(), 0);
            Edge.refused("undo()", Edge.STATE, HexBroadsides::new, y -> y.undo());
            Edge.refused("ship(0, 0)", Edge.BOUNDS, HexBroadsides::new, y -> y.ship(0, 0));
        });
    }

    private static void begin() {
        Edge.section("## Promise 2: begin");
        Edge.test("Makes a sea anew, without rocks and ships, in round 1, with the initial wind.", () -> {
            HexBroadsides x = Scenes.tied(60, 60);
            x.setRock(0, true);
            x.setRock(79, true);
            x.setWind(4, 3);
            x.endRound();
            x.begin(10, 8);
            int[] due = {10, 8, 0, 2, 1, 0, 0, 0, 0, -1};
            for (int what = 0; what < due.length; what++) {
                Due.is("value(" + what + ")", x.value(what), due[what]);
            }
            Due.is("where a rock was", x.at(79), -1);
            Due.is("where a ship was", x.at(44), -1);
            Due.is("the first ship again", x.addShip(1, 44, 1, 5, 4, 3), 0);
            Due.is("it is grappled to none", x.ship(0, 11), -1);
            theOldSeaIsGone(Scenes.tied(60, 20), Scenes.duel(), Scenes.sails(0), Scenes.hit(18));
            Edge.answers("the text stays", 2, () -> Scenes.text("e;"), y -> {
                y.begin(4, 4);
                return y.clearText();
            });
        });
        Edge.test("Undoable.", () -> {
            Edge.undoable("begin of a smaller sea", Scenes::duel, x -> x.begin(4, 4));
            Edge.undoable("begin of a greater sea", Scenes::duel, x -> x.begin(12, 12));
        });
        Edge.test("`columns`: 4 to 12", () -> {
            Due.is("the least number of columns", Scenes.sea(4, 8).value(0), 4);
            Due.is("the greatest number of columns", Scenes.sea(12, 8).value(0), 12);
        });
        Edge.test("`rows`: 4 to 12", () -> {
            Due.is("the least number of rows", Scenes.sea(10, 4).value(1), 4);
            Due.is("the greatest number of rows", Scenes.sea(10, 12).value(1), 12);
        });
        Edge.test("Returns the previous number of ships.", () -> {
            for (int ships = 0; ships <= 8; ships++) {
                HexBroadsides x = Scenes.fleet(ships);
                Due.is("begin with " + ships + " ships", x.begin(4, 4), ships);
                Due.is("begin behind it", x.begin(4, 4), 0);
            }
            Due.is("a ship that is sunk counts", Scenes.hit(18).begin(10, 8), 2);
        });
        Edge.test("Throws `IllegalArgumentException` if columns or rows is out of range", () -> {
            for (int wrong : Edge.outside(4, 12)) {
                Edge.refused("begin(" + wrong + ", 8)", Edge.ARGUMENT, Scenes::duel, x -> x.begin(wrong, 8));
                Edge.refused("begin(10, " + wrong + ")", Edge.ARGUMENT, Scenes::duel, x -> x.begin(10, wrong));
                Edge.refused("begin with both wrong", Edge.ARGUMENT, Scenes::duel, x -> x.begin(wrong, wrong));
            }
            Edge.refused("begin(65536, 65536)", Edge.ARGUMENT, Scenes::duel, x -> x.begin(65536, 65536));
        });
    }

    /** Behind begin, each of them is as a new sea is, with as many ships as are added then. */
    private static void theOldSeaIsGone(HexBroadsides... old) {
        for (int i = 0; i < old.length; i++) {
            HexBroadsides x = old[i];
            x.endRound();
            x.begin(10, 8);
            HexBroadsides y = new HexBroadsides();
            for (int ships = 0; ships <= 2; ships++) {
                Edge.calm(x, 4);
                Edge.calm(y, 4);
                Edge.sameNow("the old sea " + i + " with " + ships + " new ships", x, y);
                x.addShip(0, 44 + 2 * ships, 0, 60, 12, 60);
                y.addShip(0, 44 + 2 * ships, 0, 60, 12, 60);
            }
        }
    }

    private static void setRock() {
        Edge.section("## Promise 3: setRock");
        Edge.test("Makes a cell a rock, or no rock any more.", () -> {
            HexBroadsides x = new HexBroadsides();
            x.setRock(33, true);
            Due.is("a rock", x.at(33), -2);
            Due.is("the cell ahead of it", x.at(32), -1);
            Due.is("the cell behind it", x.at(34), -1);
            x.setRock(33, false);
            Due.is("no rock any more", x.at(33), -1);
        });
        Edge.test("Undoable.", () -> {
            Edge.undoable("a new rock", Scenes::duel, x -> x.setRock(3, true));
            Edge.undoable("no rock any more", () -> rock(3), x -> x.setRock(3, false));
            Edge.undoable("a rock that is one", () -> rock(3), x -> x.setRock(3, true));
            Edge.undoable("no rock where there is none", Scenes::duel, x -> x.setRock(3, false));
        });
        Edge.test("`cell`: number of a cell", () -> {
            HexBroadsides x = new HexBroadsides();
            x.setRock(0, true);
            x.setRock(79, true);
            Due.is("the first cell", x.at(0), -2);
            Due.is("the last cell", x.at(79), -2);
        });
        Edge.test("`rock`: whether it is to be a rock", () -> {
            Edge.answers("true", 1, () -> rock(3), x -> x.value(8));
            Edge.answers("false", 0, () -> rock(3), x -> {
                x.setRock(3, false);
                return x.value(8);
            });
        });
        Edge.test("Returns 1 if it was a rock, otherwise 0.", () -> {
            HexBroadsides x = new HexBroadsides();
            Due.is("true on no rock", x.setRock(3, true), 0);
            Due.is("true on a rock", x.setRock(3, true), 1);
            Due.is("false on a rock", x.setRock(3, false), 1);
            Due.is("false on no rock", x.setRock(3, false), 0);
            Due.is("true where a ship is sunk", Scenes.hit(18).setRock(54, true), 0);
        });
        Edge.test("Throws `IndexOutOfBoundsException` if there is no such cell", () -> {
            for (int wrong : Edge.outside(0, 79)) {
                Edge.refused("setRock(" + wrong + ", true)", Edge.BOUNDS, () -> rock(3), x -> x.setRock(wrong, true));
                Edge.refused("setRock(" + wrong + ", false)", Edge.BOUNDS, () -> rock(3), x -> x.setRock(wrong, false));
            }
            Edge.refused("setRock(16, true) in the least sea", Edge.BOUNDS, () -> Scenes.sea(4, 4),
                    x -> x.setRock(16, true));
            Edge.refused("setRock(144, true) in the greatest sea", Edge.BOUNDS, () -> Scenes.sea(12, 12),
                    x -> x.setRock(144, true));
        });
        Edge.test("Throws `IllegalStateException` if a ship that is afloat is on it", () -> {
            Edge.refused("true under a ship", Edge.STATE, Scenes::duel, x -> x.setRock(44, true));
            Edge.refused("false under a ship", Edge.STATE, Scenes::duel, x -> x.setRock(44, false));
            Edge.refused("true under a hull of 1", Edge.STATE, () -> Scenes.hit(19), x -> x.setRock(54, true));
            Edge.answers("true where a ship is sunk", 0, () -> Scenes.hit(18), x -> x.setRock(54, true));
            Edge.answers("true where a ship has been", 0, Scenes::duel, x -> {
                x.ahead(0);
                return x.setRock(44, true);
            });
        });
    }

    private static HexBroadsides rock(int cell) {
        HexBroadsides x = new HexBroadsides();
        x.setRock(cell, true);
        return x;
    }

    private static void setWind() {
        Edge.section("## Promise 4: setWind");
        Edge.test("Sets the wind.", () -> {
            HexBroadsides x = new HexBroadsides();
            x.setWind(5, 1);
            Due.is("the direction", x.value(2), 5);
            Due.is("the strength", x.value(3), 1);
        });
        Edge.test("(Points that ships have stay.)", () -> {
            HexBroadsides x = Scenes.lone(44, 1);
            x.setWind(4, 3);
            Due.is("more than the speed", x.ship(0, 8), 6);
            Due.is("the speed", x.ship(0, 12), 0);
            x.endRound();
            x.setWind(1, 3);
            Due.is("less than the speed", x.ship(0, 8), 1);
            Due.is("the speed", x.ship(0, 12), 6);
            HexBroadsides y = Scenes.text("w4;");
            y.addShip(0, 44, 1, 60, 12, 60);
            y.carryOut();
            Due.is("by an order", y.ship(0, 8), 6);
        });
        Edge.test("Undoable.", () -> {
            Edge.undoable("another wind", Scenes::duel, x -> x.setWind(3, 1));
            Edge.undoable("the same wind", Scenes::duel, x -> x.setWind(0, 2));
        });
        Edge.test("`direction`: 0 to 5", () -> {
            for (int direction = 0; direction <= 5; direction++) {
                HexBroadsides x = new HexBroadsides();
                x.setWind(direction, 2);
                Due.is("the direction", x.value(2), direction);
            }
        });
        Edge.test("`strength`: 0 to 3", () -> {
            for (int strength = 0; strength <= 3; strength++) {
                HexBroadsides x = new HexBroadsides();
                x.setWind(0, strength);
                Due.is("the strength", x.value(3), strength);
            }
        });
        Edge.test("Returns the previous direction.", () -> {
            HexBroadsides x = new HexBroadsides();
            Due.is("the initial one", x.setWind(5, 3), 0);
            Due.is("the one that was set", x.setWind(5, 0), 5);
            Due.is("the same once more", x.setWind(1, 2), 5);
            x.undo();
            Due.is("the one that undo() brought back", x.setWind(2, 2), 5);
        });
        Edge.test("Throws `IllegalArgumentException` if direction or strength is out of range", () -> {
            for (int wrong : Edge.outside(0, 5)) {
                Edge.refused("setWind(" + wrong + ", 2)", Edge.ARGUMENT, Scenes::duel, x -> x.setWind(wrong, 2));
            }
            for (int wrong : Edge.outside(0, 3)) {
                Edge.refused("setWind(1, " + wrong + ")", Edge.ARGUMENT, Scenes::duel, x -> x.setWind(1, wrong));
                Edge.refused("setWind(6, " + wrong + ")", Edge.ARGUMENT, Scenes::duel, x -> x.setWind(6, wrong));
            }
        });
    }

    private static void addShip() {
        Edge.section("## Promise 5: addShip");
        Edge.test("Adds a ship with loaded guns.", () -> {
            HexBroadsides x = Scenes.duel();
            x.fire(0, true, 1, 1);
            x.addShip(1, 34, 0, 60, 12, 60);
            x.fire(0, false, 2, 1);
            x.begin(10, 8);
            x.addShip(0, 44, 0, 60, 12, 60);
            Due.is("the wait on the left", x.ship(0, 9), 0);
            Due.is("the wait on the right", x.ship(0, 10), 0);
            x.addShip(1, 54, 0, 60, 12, 60);
            Due.is("it can fire at once", x.fire(0, true, 1, 0), 18);
        });
        Edge.test("Undoable.", () -> {
            Edge.undoable("a first ship", HexBroadsides::new, x -> x.addShip(0, 44, 0, 1, 0, 1));
            Edge.undoable("the eighth ship", () -> Scenes.fleet(7), x -> x.addShip(0, 44, 0, 1, 0, 1));
            HexBroadsides x = new HexBroadsides();
            x.addShip(0, 44, 0, 60, 12, 60);
            x.undo();
            Due.is("the number is given again", x.addShip(1, 45, 2, 50, 3, 2), 0);
            int[] due = {1, 45, 2, 50, 20, 3, 3, 2, 2, 0, 0, -1, 2, 2, 0};
            for (int what = 0; what < due.length; what++) {
                Due.is("ship(0, " + what + ")", x.ship(0, what), due[what]);
            }
        });
        Edge.test("`side`: 0 or 1", () -> {
            Edge.answers("side 0", 0, () -> one(0, 44, 0, 1, 0, 1), x -> x.ship(0, 0));
            Edge.answers("side 1", 1, () -> one(1, 44, 0, 1, 0, 1), x -> x.ship(0, 0));
        });
        Edge.test("`cell`: number of a cell", () -> {
            Edge.answers("the first cell", 0, () -> one(0, 0, 0, 1, 0, 1), x -> x.at(0));
            Edge.answers("the last cell", 0, () -> one(0, 79, 0, 1, 0, 1), x -> x.at(79));
        });
        Edge.test("`heading`: 0 to 5", () -> {
            Edge.answers("heading 0", 0, () -> one(0, 44, 0, 1, 0, 1), x -> x.ship(0, 2));
            Edge.answers("heading 5", 5, () -> one(0, 44, 5, 1, 0, 1), x -> x.ship(0, 2));
        });
        Edge.test("`hull`: 1 to 60", () -> {
            Edge.answers("a hull of 1", 1, () -> one(0, 44, 0, 1, 0, 1), x -> x.ship(0, 3));
            Edge.answers("a hull of 60", 60, () -> one(0, 44, 0, 60, 0, 1), x -> x.ship(0, 3));
        });
        Edge.test("`guns`: 0 to 12, on each of both sides", () -> {
            for (int guns = 0; guns <= 12; guns += 12) {
                HexBroadsides x = one(0, 44, 0, 1, guns, 1);
                Due.is("guns on the left", x.ship(0, 5), guns);
                Due.is("guns on the right", x.ship(0, 6), guns);
            }
        });
        Edge.test("`crew`: 1 to 60", () -> {
            Edge.answers("a crew of 1", 1, () -> one(0, 44, 0, 1, 0, 1), x -> x.ship(0, 7));
            Edge.answers("a crew of 60", 60, () -> one(0, 44, 0, 1, 0, 60), x -> x.ship(0, 7));
        });
        Edge.test("Returns the number of the ship (its sails are 20).", () -> {
            HexBroadsides x = new HexBroadsides();
            for (int i = 0; i < 8; i++) {
                Due.is("the number", x.addShip(i % 2, 79 - i, 0, 1, 0, 1), i);
                Due.is("the sails", x.ship(i, 4), 20);
            }
            Due.is("the number behind a ship that is sunk", Scenes.hit(18).addShip(0, 0, 0, 1, 0, 1), 2);
        });
    }

    private static HexBroadsides one(int side, int cell, int heading, int hull, int guns, int crew) {
        HexBroadsides x = new HexBroadsides();
        Due.is("the first ship", x.addShip(side, cell, heading, hull, guns, crew), 0);
        return x;
    }

    private static void addShipRefused() {
        Edge.test("Throws `IndexOutOfBoundsException` if there is no such cell", () -> {
            for (int wrong : Edge.outside(0, 79)) {
                Edge.refused("the cell " + wrong, Edge.BOUNDS, Scenes::duel, x -> x.addShip(0, wrong, 0, 1, 0, 1));
                Edge.refused("the cell " + wrong + ", and all else", Edge.BOUNDS, () -> Scenes.fleet(8),
                        x -> x.addShip(2, wrong, 6, 0, 13, 0));
                Edge.refused("the cell " + wrong + ", and a ninth ship", Edge.BOUNDS, () -> Scenes.fleet(8),
                        x -> x.addShip(0, wrong, 0, 1, 0, 1));
                Edge.refused("the cell " + wrong + ", and the side", Edge.BOUNDS, Scenes::duel,
                        x -> x.addShip(-1, wrong, 0, 1, 0, 1));
            }
        });
        Edge.test("Throws `IllegalArgumentException` if another argument is out of range", () -> {
            int[][] ranges = {{0, 0, 1}, {2, 0, 5}, {3, 1, 60}, {4, 0, 12}, {5, 1, 60}};
            for (int[] range : ranges) {
                for (int wrong : Edge.outside(range[1], range[2])) {
                    int[] a = {0, 20, 0, 1, 0, 1};
                    a[range[0]] = wrong;
                    String what = "the argument " + range[0] + " is " + wrong;
                    Edge.refused(what, Edge.ARGUMENT, Scenes::duel,
                            x -> x.addShip(a[0], 20, a[2], a[3], a[4], a[5]));
                    Edge.refused(what + ", and a ninth ship", Edge.ARGUMENT, () -> Scenes.fleet(8),
                            x -> x.addShip(a[0], 20, a[2], a[3], a[4], a[5]));
                    Edge.refused(what + ", and a ship is there", Edge.ARGUMENT, Scenes::duel,
                            x -> x.addShip(a[0], 44, a[2], a[3], a[4], a[5]));
                    Edge.refused(what + ", and a rock is there", Edge.ARGUMENT, () -> rock(20),
                            x -> x.addShip(a[0], 20, a[2], a[3], a[4], a[5]));
                }
            }
        });
        Edge.test("Throws `IllegalStateException` if there are 8 ships, or the cell is not free", () -> {
            Edge.answers("an eighth ship", 7, () -> Scenes.fleet(7), x -> x.addShip(0, 20, 0, 1, 0, 1));
            Edge.refused("a ninth ship", Edge.STATE, () -> Scenes.fleet(8), x -> x.addShip(0, 20, 0, 1, 0, 1));
            Edge.refused("a ninth ship, where one is sunk", Edge.STATE, () -> {
                HexBroadsides x = Scenes.hit(18);
                for (int i = 2; i < 8; i++) {
                    x.addShip(0, i, 0, 1, 0, 1);
                }
                return x;
            }, x -> x.addShip(0, 20, 0, 1, 0, 1));
            Edge.refused("on a rock", Edge.STATE, () -> rock(20), x -> x.addShip(0, 20, 0, 1, 0, 1));
            Edge.refused("on a ship", Edge.STATE, Scenes::duel, x -> x.addShip(0, 44, 0, 1, 0, 1));
            Edge.refused("on a hull of 1", Edge.STATE, () -> Scenes.hit(19), x -> x.addShip(0, 54, 0, 1, 0, 1));
            Edge.answers("where a ship is sunk", 2, () -> Scenes.hit(18), x -> x.addShip(0, 54, 0, 1, 0, 1));
        });
    }

    private static void value() {
        Edge.section("## Promise 6: value");
        Edge.plain("Returns a number.", "the next lines tell which");
        Edge.test("`what`: 0 the columns", () -> Due.is("value(0)", Scenes.sea(12, 4).value(0), 12));
        Edge.test("1 the rows", () -> Due.is("value(1)", Scenes.sea(12, 4).value(1), 4));
        Edge.test("2 the direction of the wind", () -> Due.is("value(2)", Scenes.wind(5, 3).value(2), 5));
        Edge.test("3 its strength", () -> Due.is("value(3)", Scenes.wind(5, 0).value(3), 0));
        Edge.test("4 the round", () -> {
            HexBroadsides x = new HexBroadsides();
            Due.is("value(4)", x.value(4), 1);
            x.endRound();
            Due.is("value(4)", x.value(4), 2);
        });
        Edge.test("5 the ships", () -> {
            Due.is("none", new HexBroadsides().value(5), 0);
            Due.is("eight", Scenes.fleet(8).value(5), 8);
            Due.is("one of two is sunk", Scenes.hit(18).value(5), 2);
        });
        Edge.test("6 and 7 the ships of the sides 0 and 1 that are afloat", () -> {
            Due.is("none", new HexBroadsides().value(6) + new HexBroadsides().value(7), 0);
            Due.is("eight of the side 0", Scenes.fleet(8).value(6), 8);
            Due.is("none of the side 1", Scenes.fleet(8).value(7), 0);
            Due.is("a hull of 1", Scenes.hit(19).value(7), 1);
            Due.is("a hull of 0", Scenes.hit(18).value(7), 0);
            Due.is("the other side", Scenes.hit(18).value(6), 1);
            HexBroadsides x = Scenes.tied(60, 20);
            x.board(0);
            Due.is("a ship that is taken is of the other side", x.value(6), 2);
            Due.is("and no more of its own", x.value(7), 0);
        });
        Edge.test("8 the rocks", () -> {
            HexBroadsides x = Scenes.sea(12, 12);
            Due.is("none", x.value(8), 0);
            for (int cell = 0; cell < 144; cell++) {
                x.setRock(cell, true);
            }
            Due.is("all cells", x.value(8), 144);
            x.setRock(143, true);
            Due.is("one a second time", x.value(8), 144);
            x.setRock(143, false);
            Due.is("all but one", x.value(8), 143);
        });
        Edge.test("9 the cell of the last rock by numbers (NONE without rocks)", () -> {
            HexBroadsides x = Scenes.sea(12, 12);
            Due.is("without rocks", x.value(9), HexBroadsides.NONE);
            x.setRock(143, true);
            Due.is("the last cell", x.value(9), 143);
            x.setRock(0, true);
            Due.is("by numbers, not by the order of calls", x.value(9), 143);
            x.setRock(143, false);
            Due.is("the first cell", x.value(9), 0);
            x.setRock(0, false);
            Due.is("without rocks again", x.value(9), HexBroadsides.NONE);
        });
        Edge.test("Returns that number.", () -> Edge.changesNothing("value", Scenes::duel, x -> x.value(9)));
        Edge.test("Throws `IllegalArgumentException` if what is out of range", () -> {
            for (int wrong : Edge.outside(0, 9)) {
                Edge.refused("value(" + wrong + ")", Edge.ARGUMENT, Scenes::duel, x -> x.value(wrong));
            }
        });
    }

    private static void ship() {
        Edge.section("## Promise 7: ship");
        Edge.plain("Returns something about a ship.", "the next lines tell what");
        Edge.test("`ship`: number of a ship", () -> {
            Due.is("the first one", Scenes.fleet(8).ship(0, 1), 0);
            Due.is("the last one", Scenes.fleet(8).ship(7, 1), 7);
        });
        Edge.test("`what`: 0 its side", () -> {
            Due.is("side 0", Scenes.duel().ship(0, 0), 0);
            Due.is("side 1", Scenes.duel().ship(1, 0), 1);
        });
        Edge.test("1 its cell (NONE if it is sunk)", () -> {
            Due.is("the first cell", Scenes.lone(0, 0).ship(0, 1), 0);
            Due.is("a hull of 1", Scenes.hit(19).ship(1, 1), 54);
            Due.is("sunk", Scenes.hit(18).ship(1, 1), HexBroadsides.NONE);
        });
        Edge.test("2 its heading", () -> {
            Due.is("heading 5", Scenes.lone(44, 5).ship(0, 2), 5);
            Due.is("of a sunk ship", Scenes.hit(18).ship(1, 2), 0);
        });
        Edge.test("3 its hull", () -> {
            Due.is("one is left", Scenes.hit(19).ship(1, 3), 1);
            Due.is("none is left", Scenes.hit(18).ship(1, 3), 0);
            Due.is("nor less", Scenes.hit(1).ship(1, 3), 0);
        });
        Edge.test("4 its sails", () -> {
            for (int sails = 0; sails <= 20; sails++) {
                Due.is("sails", Scenes.sails(sails).ship(0, 4), sails);
            }
        });
        Edge.test("5 its guns on the left", () -> Due.is("ship(1, 5)", Scenes.hit(60).ship(1, 5), 6));
        Edge.test("6 those on the right", () -> Due.is("ship(1, 6)", Scenes.hit(60).ship(1, 6), 12));
        Edge.test("7 its crew", () -> Due.is("ship(1, 7)", Scenes.duel(60, 12, 1).ship(1, 7), 1));
        Edge.test("8 its points", () -> {
            HexBroadsides x = Scenes.lone(44, 0);
            for (int points = 4; points > 0; points--) {
                Due.is("points", x.ship(0, 8), points);
                x.ahead(0);
            }
            Due.is("no points", x.ship(0, 8), 0);
            Due.is("of a sunk ship, until the round ends", Scenes.hit(18).ship(1, 8), 4);
        });
    }

    private static void shipStates() {
        Edge.test("9 the wait of the left guns", () -> {
            HexBroadsides x = Scenes.duel();
            Due.is("loaded", x.ship(1, 9), 0);
            x.fire(1, false, 0, 1);
            Due.is("fired", x.ship(1, 9), 1);
            Due.is("the other ship's", x.ship(0, 9), 0);
        });
        Edge.test("10 that of the right ones", () -> {
            HexBroadsides x = Scenes.duel();
            Due.is("loaded", x.ship(0, 10), 0);
            x.fire(0, true, 1, 1);
            Due.is("fired", x.ship(0, 10), 1);
            Due.is("the other ship's", x.ship(1, 10), 0);
        });
        Edge.test("11 the ship to which it is grappled (NONE if to none)", () -> {
            Due.is("to none", Scenes.duel().ship(0, 11), HexBroadsides.NONE);
            Due.is("the one", Scenes.tied(60, 60).ship(0, 11), 1);
            Due.is("the other", Scenes.tied(60, 60).ship(1, 11), 0);
        });
        Edge.test("12 its speed", () -> {
            Due.is("next to the wind", Scenes.lone(44, 1).ship(0, 12), 6);
            Due.is("against the wind, where it has 1 point", Scenes.lone(44, 3).ship(0, 12), 0);
            Due.is("of a sunk ship", Scenes.hit(18).ship(1, 12), 4);
        });
        Edge.test("13 the angle of its heading to the wind", () -> {
            int[] due = {0, 1, 2, 3, 2, 1};
            for (int heading = 0; heading < 6; heading++) {
                Due.is("heading " + heading, Scenes.lone(44, heading).ship(0, 13), due[heading]);
            }
            Due.is("of a sunk ship", Scenes.hit(18).ship(1, 13), 0);
        });
        Edge.test("14 1 if it has boarded in this round, otherwise 0", () -> {
            HexBroadsides x = Scenes.tied(60, 60);
            Due.is("not yet", x.ship(0, 14), 0);
            x.board(0);
            Due.is("boarded", x.ship(0, 14), 1);
            Due.is("the other one has not", x.ship(1, 14), 0);
            x.cut(0);
            Due.is("cut behind it", x.ship(0, 14), 1);
            x.endRound();
            Due.is("in the next round", x.ship(0, 14), 0);
            HexBroadsides y = Scenes.tied(60, 1);
            y.board(0);
            Due.is("behind a ship that was taken", y.ship(0, 14), 1);
        });
        Edge.test("Returns that value.", () -> Edge.changesNothing("ship", Scenes::duel, x -> x.ship(0, 14)));
        Edge.test("Throws `IndexOutOfBoundsException` if there is no such ship", () -> {
            for (int wrong : Edge.outside(0, 1)) {
                Edge.refused("ship(" + wrong + ", 0)", Edge.BOUNDS, Scenes::duel, x -> x.ship(wrong, 0));
                Edge.refused("ship(" + wrong + ", 15)", Edge.BOUNDS, Scenes::duel, x -> x.ship(wrong, 15));
                Edge.refused("ship(" + wrong + ", -1)", Edge.BOUNDS, Scenes::duel, x -> x.ship(wrong, -1));
            }
            Edge.refused("ship(8, 0) of eight", Edge.BOUNDS, () -> Scenes.fleet(8), x -> x.ship(8, 0));
            Edge.refused("ship(0, 0) behind begin", Edge.BOUNDS, () -> {
                HexBroadsides x = Scenes.duel();
                x.begin(10, 8);
                return x;
            }, x -> x.ship(0, 0));
            Edge.answers("a ship that is sunk is such a ship", 1, () -> Scenes.hit(18), x -> x.ship(1, 0));
        });
        Edge.test("Throws `IllegalArgumentException` if what is out of range", () -> {
            for (int wrong : Edge.outside(0, 14)) {
                Edge.refused("ship(0, " + wrong + ")", Edge.ARGUMENT, Scenes::duel, x -> x.ship(0, wrong));
            }
        });
    }

    private static void at() {
        Edge.section("## Promise 8: at");
        Edge.test("Returns what is on a cell.", () -> Edge.changesNothing("at", Scenes::duel, x -> x.at(44)));
        Edge.test("`cell`: number of a cell", () -> {
            Due.is("the first cell", Scenes.lone(0, 0).at(0), 0);
            Due.is("the last cell", Scenes.lone(79, 0).at(79), 0);
        });
        Edge.test("Returns the ship; NONE if it is free, -2 if it is a rock.", () -> {
            Due.is("the ship 0", Scenes.hit(19).at(44), 0);
            Due.is("a ship with a hull of 1", Scenes.hit(19).at(54), 1);
            Due.is("the ship 7", Scenes.fleet(8).at(7), 7);
            Due.is("a free cell", Scenes.hit(19).at(45), HexBroadsides.NONE);
            Due.is("where a ship is sunk", Scenes.hit(18).at(54), HexBroadsides.NONE);
            Due.is("a rock", rock(0).at(0), -2);
            HexBroadsides x = Scenes.hit(18);
            x.setRock(54, true);
            Due.is("a rock where a ship is sunk", x.at(54), -2);
            HexBroadsides y = Scenes.hit(18);
            y.addShip(0, 54, 0, 1, 0, 1);
            Due.is("a ship where a ship is sunk", y.at(54), 2);
        });
        Edge.test("Throws `IndexOutOfBoundsException` if there is no such cell", () -> {
            for (int wrong : Edge.outside(0, 79)) {
                Edge.refused("at(" + wrong + ")", Edge.BOUNDS, Scenes::duel, x -> x.at(wrong));
            }
            Edge.refused("at(16) in the least sea", Edge.BOUNDS, () -> Scenes.sea(4, 4), x -> x.at(16));
            Edge.refused("at(144) in the greatest sea", Edge.BOUNDS, () -> Scenes.sea(12, 12), x -> x.at(144));
        });
    }

    private static void distance() {
        Edge.section("## Promise 9: distance");
        Edge.test("Returns the distance of two cells.",
                () -> Edge.changesNothing("distance", Scenes::duel, x -> x.distance(44, 0)));
        Edge.test("`from`: number of a cell", () -> {
            Due.is("the first cell", new HexBroadsides().distance(0, 44), 8);
            Due.is("the last cell", new HexBroadsides().distance(79, 44), 8);
        });
        Edge.test("`to`: number of a cell", () -> {
            Due.is("the first cell", new HexBroadsides().distance(44, 0), 8);
            Due.is("the last cell", new HexBroadsides().distance(44, 79), 8);
        });
        Edge.test("Returns the distance.", () -> {
            HexBroadsides x = Scenes.sea(12, 12);
            Due.is("of the same cell", x.distance(66, 66), 0);
            Due.is("the greatest one", x.distance(0, 143), 22);
            Due.is("over the other corners", x.distance(11, 132), 11);
            for (int cell = 0; cell < 144; cell++) {
                Due.is("there and back", x.distance(66, cell), x.distance(cell, 66));
            }
        });
        Edge.test("Throws `IndexOutOfBoundsException` if there is no such cell", () -> {
            for (int wrong : Edge.outside(0, 79)) {
                Edge.refused("distance(" + wrong + ", 0)", Edge.BOUNDS, Scenes::duel, x -> x.distance(wrong, 0));
                Edge.refused("distance(0, " + wrong + ")", Edge.BOUNDS, Scenes::duel, x -> x.distance(0, wrong));
                Edge.refused("distance of both", Edge.BOUNDS, Scenes::duel, x -> x.distance(wrong, wrong));
            }
        });
    }

    private static void bearing() {
        Edge.section("## Promise 10: bearing");
        Edge.test("Returns the bearing of a cell, as seen from another one.", () -> {
            Edge.changesNothing("bearing", Scenes::duel, x -> x.bearing(44, 0));
            HexBroadsides x = new HexBroadsides();
            for (int k = 0; k < 6; k++) {
                int next = new int[] {45, 54, 53, 43, 34, 35}[k];
                Due.is("from 44", x.bearing(44, next), 10 + k);
                Due.is("from the other one", x.bearing(next, 44), 10 + (k + 3) % 6);
            }
        });
        Edge.test("`from`: number of a cell", () -> {
            Due.is("the first cell", new HexBroadsides().bearing(0, 79), 0);
            Due.is("the last cell", new HexBroadsides().bearing(79, 0), 3);
        });
        Edge.test("`to`: number of a cell", () -> {
            Due.is("the first cell", new HexBroadsides().bearing(44, 0), 3);
            Due.is("the last cell", new HexBroadsides().bearing(44, 79), 0);
        });
        Edge.test("Returns the bearing, plus 10 if it lies on a line; NONE if both are the same.", () -> {
            HexBroadsides x = Scenes.sea(12, 12);
            int[][] due = {{67, 10}, {79, 0}, {78, 11}, {89, 1}, {77, 12}, {76, 2}, {65, 13}, {53, 3}, {54, 14},
                {43, 4}, {55, 15}, {56, 5}, {71, 10}, {83, 0}, {138, 11}, {136, 1}, {121, 12}, {120, 2}, {60, 13},
                {48, 3}, {6, 14}, {8, 4}, {11, 15}, {23, 5}};
            for (int[] d : due) {
                Due.is("bearing(66, " + d[0] + ")", x.bearing(66, d[0]), d[1]);
            }
            Due.is("of the same cell", x.bearing(66, 66), HexBroadsides.NONE);
            Due.is("of the first cell to itself", x.bearing(0, 0), HexBroadsides.NONE);
        });
        Edge.test("Throws `IndexOutOfBoundsException` if there is no such cell", () -> {
            for (int wrong : Edge.outside(0, 79)) {
                Edge.refused("bearing(" + wrong + ", 0)", Edge.BOUNDS, Scenes::duel, x -> x.bearing(wrong, 0));
                Edge.refused("bearing(0, " + wrong + ")", Edge.BOUNDS, Scenes::duel, x -> x.bearing(0, wrong));
                Edge.refused("bearing of both", Edge.BOUNDS, Scenes::duel, x -> x.bearing(wrong, wrong));
            }
        });
    }
}
