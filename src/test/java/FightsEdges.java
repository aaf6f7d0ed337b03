/** Promises 14 to 18 of the document. */
final class FightsEdges {
    private FightsEdges() {
    }

    static void run() {
        force();
        fire();
        fireRefused();
        fireNotPossible();
        grapple();
        grappleRefused();
        cut();
        board();
    }

    /** Ship 0 at 44 with the heading 0, and ship 1 of this side at this cell. */
    private static HexBroadsides against(int side, int cell) {
        HexBroadsides x = Scenes.lone(44, 0);
        x.addShip(side, cell, 0, 60, 12, 60);
        return x;
    }

    /** Down one column of a sea of 12 to 12, ship 0 with this number of guns. */
    private static HexBroadsides apart(int distance, int guns) {
        HexBroadsides x = Scenes.sea(12, 12);
        x.addShip(0, 6, 0, 60, guns, 60);
        x.addShip(1, 6 + 12 * distance, 0, 60, 12, 60);
        return x;
    }

    private static HexBroadsides hidden() {
        HexBroadsides x = against(1, 64);
        x.setRock(54, true);
        return x;
    }

    private static HexBroadsides loadedAgain(int hull) {
        HexBroadsides x = Scenes.hit(hull);
        x.endRound();
        return x;
    }

    private static void force() {
        Edge.section("## Promise 14: force");
        Edge.test("Tells with what force a ship would hit another one, if its guns were loaded.", () -> {
            Due.is("loaded", Scenes.duel().force(0, true, 1), 72);
            Due.is("with a wait of 1", Scenes.hit(60).force(0, true, 1), 72);
            HexBroadsides x = Scenes.tied(60, 60);
            x.board(0);
            x.board(1);
            x.fire(1, false, 0, 1);
            Due.is("a wait of 2", x.ship(1, 9), 2);
            Due.is("with a wait of 2", x.force(1, false, 0), 72);
            Due.is("against the wind", Scenes.duel().force(1, false, 0), 72);
            Edge.changesNothing("force", Scenes::duel, y -> y.force(0, true, 1));
        });
        Edge.test("`ship`: number of a ship", () -> {
            Due.is("the first one", Scenes.duel().force(0, true, 1), 72);
            Due.is("the last one", Scenes.duel().force(1, false, 0), 72);
        });
        Edge.test("`right`: the guns: true on the right, false on the left", () -> {
            Due.is("true at the right", Scenes.duel().force(0, true, 1), 72);
            Due.is("false at the right", Scenes.duel().force(0, false, 1), 0);
            Due.is("true at the left", Scenes.duel().force(1, true, 0), 0);
            Due.is("false at the left", Scenes.duel().force(1, false, 0), 72);
        });
        Edge.test("`target`: number of another ship", () -> {
            HexBroadsides x = Scenes.duel();
            for (int i = 2; i < 8; i++) {
                x.addShip(1, i, 0, 1, 0, 1);
            }
            Due.is("the ship 7 at the left", x.force(0, false, 7), 36);
            Due.is("the ship 0", x.force(1, false, 0), 72);
        });
        Edge.test("Returns the force; 0 if it could not fire at it for another reason than that.", () -> {
            Due.is("the least force", apart(6, 1).force(0, true, 1), 1);
            Due.is("the greatest force", raked().force(0, true, 1), 144);
            Due.is("at the distance 7", apart(7, 12).force(0, true, 1), 0);
            Due.is("at the distance 11", apart(11, 12).force(0, true, 1), 0);
            Due.is("without guns", apart(1, 0).force(0, true, 1), 0);
            Due.is("at the own side", against(0, 54).force(0, true, 1), 0);
            Due.is("out of the arc", against(1, 45).force(0, true, 1), 0);
            Due.is("hidden", hidden().force(0, true, 1), 0);
            Due.is("at a hull of 1", Scenes.hit(19).force(0, true, 1), 72);
            Due.is("at a sunk ship", Scenes.hit(18).force(0, true, 1), 0);
            Due.is("by a hull of 1", Scenes.hit(19).force(1, false, 0), 36);
            Due.is("by a sunk ship", Scenes.hit(18).force(1, false, 0), 0);
            Due.is("at the ship to which it is grappled", Scenes.tied(60, 60).force(0, true, 1), 72);
        });
        Edge.test("Throws `IndexOutOfBoundsException` if there is no such ship (ship or target)", () -> {
            for (int wrong : Edge.outside(0, 1)) {
                Edge.refused("the ship " + wrong, Edge.BOUNDS, Scenes::duel, x -> x.force(wrong, true, 1));
                Edge.refused("the target " + wrong, Edge.BOUNDS, Scenes::duel, x -> x.force(0, true, wrong));
                Edge.refused("both " + wrong, Edge.BOUNDS, Scenes::duel, x -> x.force(wrong, true, wrong));
            }
        });
        Edge.test("Throws `IllegalArgumentException` if both are the same", () -> {
            Edge.refused("force(0, true, 0)", Edge.ARGUMENT, Scenes::duel, x -> x.force(0, true, 0));
            Edge.refused("force(1, false, 1)", Edge.ARGUMENT, Scenes::duel, x -> x.force(1, false, 1));
            Edge.refused("of a sunk ship", Edge.ARGUMENT, () -> Scenes.hit(18), x -> x.force(1, false, 1));
        });
    }

    private static HexBroadsides raked() {
        HexBroadsides x = Scenes.lone(44, 0);
        x.addShip(1, 54, 1, 60, 12, 60);
        return x;
    }

    private static void fire() {
        Edge.section("## Promise 15: fire");
        Edge.test("Fires.", () -> {
            HexBroadsides x = Scenes.duel();
            x.fire(0, true, 1, 0);
            Due.is("the hull", x.ship(1, 3), 42);
            Due.is("the guns", x.ship(1, 5), 6);
            Due.is("the wait", x.ship(0, 10), 1);
            Due.is("the own hull", x.ship(0, 3), 60);
            Due.is("the own points", x.ship(0, 8), 4);
        });
        Edge.test("Undoable.", () -> {
            for (int i = 0; i < 3; i++) {
                int aim = i;
                Edge.undoable("the aim " + aim, Scenes::duel, x -> x.fire(0, true, 1, aim));
                Edge.undoable("the left guns, the aim " + aim, Scenes::duel, x -> x.fire(1, false, 0, aim));
                Edge.undoable("without a loss, the aim " + aim, () -> apart(2, 1), x -> x.fire(0, true, 1, aim));
            }
            Edge.undoable("a shot that sinks", () -> Scenes.duel(18, 12, 60), x -> x.fire(0, true, 1, 0));
            Edge.undoable("a shot that sinks a grappled ship", () -> {
                HexBroadsides x = Scenes.duel(18, 12, 60);
                x.grapple(1, 0);
                return x;
            }, x -> x.fire(0, true, 1, 0));
        });
        Edge.test("`ship`: number of a ship", () -> {
            Edge.answers("the first one", 18, Scenes::duel, x -> x.fire(0, true, 1, 0));
            Edge.answers("the last one", 18, Scenes::duel, x -> x.fire(1, false, 0, 0));
        });
        Edge.test("`right`: the guns: true on the right, false on the left", () -> {
            HexBroadsides x = Scenes.duel();
            x.fire(0, true, 1, 1);
            x.fire(1, false, 0, 1);
            Due.is("true: the right wait", x.ship(0, 10), 1);
            Due.is("true: the left wait", x.ship(0, 9), 0);
            Due.is("false: the right wait", x.ship(1, 10), 0);
            Due.is("false: the left wait", x.ship(1, 9), 1);
        });
        Edge.test("`target`: number of another ship", () -> {
            HexBroadsides x = Scenes.duel();
            x.addShip(1, 53, 0, 60, 12, 60);
            x.fire(0, true, 2, 0);
            Due.is("the target", x.ship(2, 3), 42);
            Due.is("a ship next to it", x.ship(1, 3), 60);
        });
        Edge.test("`aim`: 0 to 2", () -> {
            int[][] left = {{42, 20, 60}, {60, 8, 60}, {60, 20, 46}};
            for (int aim = 0; aim <= 2; aim++) {
                HexBroadsides x = Scenes.duel();
                x.fire(0, true, 1, aim);
                Due.is("hull behind the aim " + aim, x.ship(1, 3), left[aim][0]);
                Due.is("sails behind the aim " + aim, x.ship(1, 4), left[aim][1]);
                Due.is("crew behind the aim " + aim, x.ship(1, 7), left[aim][2]);
            }
        });
        Edge.test("Returns what the hull, the sails or the crew has really lost by it.", () -> {
            Edge.answers("18 of a hull of 19", 18, () -> Scenes.duel(19, 12, 60), x -> x.fire(0, true, 1, 0));
            Edge.answers("18 of a hull of 18", 18, () -> Scenes.duel(18, 12, 60), x -> x.fire(0, true, 1, 0));
            Edge.answers("18 of a hull of 17", 17, () -> Scenes.duel(17, 12, 60), x -> x.fire(0, true, 1, 0));
            Edge.answers("18 of a hull of 1", 1, () -> Scenes.duel(1, 12, 60), x -> x.fire(0, true, 1, 0));
            Edge.answers("24 of 20 sails", 20, FightsEdges::raked, x -> x.fire(0, true, 1, 1));
            Edge.answers("12 of 20 sails", 12, Scenes::duel, x -> x.fire(0, true, 1, 1));
            Edge.answers("14 of a crew of 15", 14, () -> Scenes.duel(60, 12, 15), x -> x.fire(0, true, 1, 2));
            Edge.answers("14 of a crew of 14", 13, () -> Scenes.duel(60, 12, 14), x -> x.fire(0, true, 1, 2));
            Edge.answers("14 of a crew of 1", 0, () -> Scenes.duel(60, 12, 1), x -> x.fire(0, true, 1, 2));
            Edge.answers("1 / 4 of a hull", 0, () -> apart(6, 1), x -> x.fire(0, true, 1, 0));
            Edge.answers("1 / 6 of the sails", 0, () -> apart(6, 1), x -> x.fire(0, true, 1, 1));
        });
    }

    private static void fireRefused() {
        Edge.test("Throws `IndexOutOfBoundsException` if there is no such ship (ship or target)", () -> {
            for (int wrong : Edge.outside(0, 1)) {
                Edge.refused("the ship " + wrong, Edge.BOUNDS, Scenes::duel, x -> x.fire(wrong, true, 1, 0));
                Edge.refused("the target " + wrong, Edge.BOUNDS, Scenes::duel, x -> x.fire(0, true, wrong, 0));
                Edge.refused("both " + wrong, Edge.BOUNDS, Scenes::duel, x -> x.fire(wrong, true, wrong, 0));
                Edge.refused("the ship " + wrong + " and the aim", Edge.BOUNDS, Scenes::duel,
                        x -> x.fire(wrong, true, 1, 3));
                Edge.refused("the target " + wrong + " and the aim", Edge.BOUNDS, Scenes::duel,
                        x -> x.fire(0, true, wrong, -1));
                Edge.refused("the target " + wrong + " and a wait", Edge.BOUNDS, () -> Scenes.hit(60),
                        x -> x.fire(0, true, wrong, 0));
            }
        });
        Edge.test("Throws `IllegalArgumentException` if both are the same, or aim is out of range", () -> {
            Edge.refused("fire(0, true, 0, 0)", Edge.ARGUMENT, Scenes::duel, x -> x.fire(0, true, 0, 0));
            Edge.refused("fire(1, false, 1, 2)", Edge.ARGUMENT, Scenes::duel, x -> x.fire(1, false, 1, 2));
            Edge.refused("both the same, and the aim", Edge.ARGUMENT, Scenes::duel, x -> x.fire(0, true, 0, 3));
            Edge.refused("both the same, and a wait", Edge.ARGUMENT, () -> Scenes.hit(60), x -> x.fire(0, true, 0, 0));
            for (int wrong : Edge.outside(0, 2)) {
                Edge.refused("the aim " + wrong, Edge.ARGUMENT, Scenes::duel, x -> x.fire(0, true, 1, wrong));
                Edge.refused("the aim " + wrong + " and a wait", Edge.ARGUMENT, () -> Scenes.hit(60),
                        x -> x.fire(0, true, 1, wrong));
                Edge.refused("the aim " + wrong + " and the arc", Edge.ARGUMENT, Scenes::duel,
                        x -> x.fire(0, false, 1, wrong));
                Edge.refused("the aim " + wrong + " and the own side", Edge.ARGUMENT, () -> against(0, 54),
                        x -> x.fire(0, true, 1, wrong));
                Edge.refused("the aim " + wrong + " and a sunk ship", Edge.ARGUMENT, () -> Scenes.hit(18),
                        x -> x.fire(1, false, 0, wrong));
            }
        });
    }

    private static void fireNotPossible() {
        Edge.test("Throws `IllegalStateException` if it is not possible", () -> {
            for (int i = 0; i < 3; i++) {
                int aim = i;
                String what = " (aim " + aim + ")";
                Edge.refused("sunk" + what, Edge.STATE, () -> Scenes.hit(18), x -> x.fire(1, false, 0, aim));
                Edge.refused("at a sunk ship" + what, Edge.STATE, () -> loadedAgain(18), x -> x.fire(0, true, 1, aim));
                Edge.refused("at the own side" + what, Edge.STATE, () -> against(0, 54), x -> x.fire(0, true, 1, aim));
                Edge.refused("ahead" + what, Edge.STATE, () -> against(1, 45), x -> x.fire(0, true, 1, aim));
                Edge.refused("the other guns" + what, Edge.STATE, Scenes::duel, x -> x.fire(0, false, 1, aim));
                Edge.refused("hidden" + what, Edge.STATE, FightsEdges::hidden, x -> x.fire(0, true, 1, aim));
                Edge.refused("at the distance 7" + what, Edge.STATE, () -> apart(7, 12), x -> x.fire(0, true, 1, aim));
                Edge.refused("not loaded" + what, Edge.STATE, () -> Scenes.hit(60), x -> x.fire(0, true, 1, aim));
                Edge.refused("no guns" + what, Edge.STATE, () -> apart(1, 0), x -> x.fire(0, true, 1, aim));
            }
            for (int distance = 1; distance <= 6; distance++) {
                int d = distance;
                Edge.answers("the sails at the distance " + d, 2 * (7 - d), () -> apart(d, 12), x -> x.fire(0, true, 1, 1));
                if (d <= 2) {
                    Edge.answers("the crew at the distance " + d, 12 * (7 - d) / 5, () -> apart(d, 12),
                            x -> x.fire(0, true, 1, 2));
                } else {
                    Edge.refused("the crew at the distance " + d, Edge.STATE, () -> apart(d, 12),
                            x -> x.fire(0, true, 1, 2));
                }
            }
            Edge.answers("a ship to which it is grappled", 18, () -> Scenes.tied(60, 60), x -> x.fire(0, true, 1, 0));
            Edge.answers("without sails", 12, () -> Scenes.sails(0), x -> x.fire(0, false, 1, 1));
            Edge.answers("against the wind, and without points", 12, () -> {
                HexBroadsides x = Scenes.duel();
                Due.order(x, "0r;0l;0r;0l;w3;");
                return x;
            }, x -> x.fire(0, true, 1, 1));
        });
    }

    private static void grapple() {
        Edge.section("## Promise 16: grapple");
        Edge.test("Grapples a ship.", () -> {
            HexBroadsides x = Scenes.duel();
            x.grapple(1, 0);
            Due.is("the one", x.ship(1, 11), 0);
            Due.is("the other", x.ship(0, 11), 1);
            Due.is("points stay", x.ship(1, 8), 4);
        });
        Edge.test("Undoable.", () -> {
            Edge.undoable("grapple", Scenes::duel, x -> x.grapple(0, 1));
            Edge.undoable("grapple by the other one", Scenes::duel, x -> x.grapple(1, 0));
        });
        Edge.test("`ship`: number of a ship",
                () -> Edge.answers("the last one", 2, FightsEdges::eight, x -> x.grapple(7, 6)));
        Edge.test("`target`: number of another ship",
                () -> Edge.answers("the first one", 2, FightsEdges::eight, x -> x.grapple(1, 0)));
        Edge.test("Returns the number of ships that are grappled then.", () -> {
            HexBroadsides x = eight();
            for (int i = 0; i < 8; i += 2) {
                Due.is("grapple(" + i + ", " + (i + 1) + ")", x.grapple(i, i + 1), i + 2);
            }
            x.cut(3);
            Due.is("behind a cut", x.grapple(3, 2), 8);
        });
    }

    /** Eight ships in a row, the sides by turns. */
    private static HexBroadsides eight() {
        HexBroadsides x = new HexBroadsides();
        for (int i = 0; i < 8; i++) {
            x.addShip(i % 2, 40 + i, 0, 60, 12, 60);
        }
        return x;
    }

    private static void grappleRefused() {
        Edge.test("Throws `IndexOutOfBoundsException` if there is no such ship (ship or target)", () -> {
            for (int wrong : Edge.outside(0, 1)) {
                Edge.refused("the ship " + wrong, Edge.BOUNDS, Scenes::duel, x -> x.grapple(wrong, 1));
                Edge.refused("the target " + wrong, Edge.BOUNDS, Scenes::duel, x -> x.grapple(0, wrong));
                Edge.refused("both " + wrong, Edge.BOUNDS, Scenes::duel, x -> x.grapple(wrong, wrong));
                Edge.refused("the target " + wrong + " when grappled", Edge.BOUNDS, () -> Scenes.tied(60, 60),
                        x -> x.grapple(0, wrong));
            }
        });
        Edge.test("Throws `IllegalArgumentException` if both are the same", () -> {
            Edge.refused("grapple(0, 0)", Edge.ARGUMENT, Scenes::duel, x -> x.grapple(0, 0));
            Edge.refused("when grappled", Edge.ARGUMENT, () -> Scenes.tied(60, 60), x -> x.grapple(1, 1));
            Edge.refused("a sunk ship", Edge.ARGUMENT, () -> Scenes.hit(18), x -> x.grapple(1, 1));
        });
        Edge.test("Throws `IllegalStateException` if it is not possible", () -> {
            Edge.refused("of the own side", Edge.STATE, () -> against(0, 54), x -> x.grapple(0, 1));
            Edge.answers("of the other side", 2, () -> against(1, 54), x -> x.grapple(0, 1));
            Edge.refused("at the distance 2", Edge.STATE, () -> against(1, 64), x -> x.grapple(0, 1));
            Edge.refused("sunk", Edge.STATE, () -> Scenes.hit(18), x -> x.grapple(1, 0));
            Edge.refused("a sunk ship", Edge.STATE, () -> Scenes.hit(18), x -> x.grapple(0, 1));
            Edge.answers("a hull of 1", 2, () -> Scenes.hit(19), x -> x.grapple(1, 0));
            Edge.refused("grappled to it", Edge.STATE, () -> Scenes.tied(60, 60), x -> x.grapple(0, 1));
            Edge.Maker two = () -> {
                HexBroadsides x = eight();
                x.grapple(2, 3);
                return x;
            };
            Edge.refused("grappled to another one", Edge.STATE, two, x -> x.grapple(2, 1));
            Edge.refused("one that is grappled to another one", Edge.STATE, two, x -> x.grapple(1, 2));
            Edge.answers("none of them is grappled", 4, two, x -> x.grapple(1, 0));
        });
    }

    private static void cut() {
        Edge.section("## Promise 17: cut");
        Edge.test("Cuts the ropes of a grappled ship.", () -> {
            HexBroadsides x = eight();
            x.grapple(0, 1);
            x.grapple(2, 3);
            x.cut(1);
            Due.is("the one", x.ship(1, 11), -1);
            Due.is("the other", x.ship(0, 11), -1);
            Due.is("two more stay grappled", x.ship(2, 11), 3);
            Due.is("and so does the second of them", x.ship(3, 11), 2);
        });
        Edge.test("Undoable.", () -> {
            Edge.undoable("cut", () -> Scenes.tied(60, 60), x -> x.cut(0));
            Edge.undoable("cut by the other one", () -> Scenes.tied(60, 60), x -> x.cut(1));
        });
        Edge.test("`ship`: number of a ship", () -> Edge.answers("the last one", 6, () -> {
            HexBroadsides x = eight();
            x.grapple(6, 7);
            return x;
        }, x -> x.cut(7)));
        Edge.test("Returns the ship to which it was grappled.", () -> {
            Edge.answers("the ship 0", 0, () -> Scenes.tied(60, 60), x -> x.cut(1));
            Edge.answers("the ship 1", 1, () -> Scenes.tied(60, 60), x -> x.cut(0));
        });
        Edge.test("Throws `IndexOutOfBoundsException` if there is no such ship", () -> {
            for (int wrong : Edge.outside(0, 1)) {
                Edge.refused("cut(" + wrong + ")", Edge.BOUNDS, () -> Scenes.tied(60, 60), x -> x.cut(wrong));
            }
        });
        Edge.test("Throws `IllegalStateException` if it is not grappled", () -> {
            Edge.refused("never grappled", Edge.STATE, Scenes::duel, x -> x.cut(0));
            Edge.refused("cut before", Edge.STATE, () -> {
                HexBroadsides x = Scenes.tied(60, 60);
                x.cut(0);
                return x;
            }, x -> x.cut(1));
            Edge.refused("two others are grappled", Edge.STATE, () -> {
                HexBroadsides x = eight();
                x.grapple(2, 3);
                return x;
            }, x -> x.cut(1));
            Edge.Maker sunk = () -> {
                HexBroadsides x = Scenes.duel(18, 12, 60);
                x.grapple(0, 1);
                x.fire(0, true, 1, 0);
                return x;
            };
            Edge.refused("the other one has sunk", Edge.STATE, sunk, x -> x.cut(0));
            Edge.refused("it has sunk", Edge.STATE, sunk, x -> x.cut(1));
            Edge.refused("the other one was taken", Edge.STATE, () -> {
                HexBroadsides x = Scenes.tied(60, 1);
                x.board(0);
                return x;
            }, x -> x.cut(0));
        });
    }

    private static void board() {
        Edge.section("## Promise 18: board");
        Edge.test("Boards the ship to which a ship is grappled.", () -> {
            HexBroadsides x = Scenes.tied(30, 20);
            x.addShip(1, 45, 0, 60, 12, 20);
            x.board(0);
            Due.is("the boarding crew", x.ship(0, 7), 25);
            Due.is("the other crew", x.ship(1, 7), 10);
            Due.is("the crew of a ship next to it", x.ship(2, 7), 20);
            Due.is("still grappled", x.ship(0, 11), 1);
            HexBroadsides y = Scenes.tied(30, 20);
            y.board(1);
            Due.is("the boarding crew", y.ship(1, 7), 12);
            Due.is("the other crew", y.ship(0, 7), 23);
        });
        Edge.test("Undoable.", () -> {
            Edge.undoable("board", () -> Scenes.tied(30, 20), x -> x.board(0));
            Edge.undoable("a ship that is taken", () -> Scenes.tied(60, 20), x -> x.board(0));
            Edge.undoable("a ship of the side 0 that is taken", () -> Scenes.tied(1, 60), x -> x.board(1));
        });
        Edge.test("`ship`: number of a ship", () -> Edge.answers("the last one", 0, () -> {
            HexBroadsides x = eight();
            x.grapple(6, 7);
            return x;
        }, x -> x.board(7)));
        Edge.test("Returns 1 if the other ship is taken by this, otherwise 0.", () -> {
            Edge.answers("one of the crew is left", 0, () -> Scenes.tied(30, 11), x -> x.board(0));
            Edge.answers("just none is left", 1, () -> Scenes.tied(30, 10), x -> x.board(0));
            Edge.answers("less than none is left", 1, () -> Scenes.tied(30, 9), x -> x.board(0));
            Edge.answers("one against one", 1, () -> Scenes.tied(1, 1), x -> x.board(0));
            Edge.answers("one against two", 0, () -> Scenes.tied(1, 2), x -> x.board(0));
            Edge.answers("the own crew falls to 1", 0, () -> Scenes.tied(1, 60), x -> x.board(0));
        });
        Edge.test("Throws `IndexOutOfBoundsException` if there is no such ship", () -> {
            for (int wrong : Edge.outside(0, 1)) {
                Edge.refused("board(" + wrong + ")", Edge.BOUNDS, () -> Scenes.tied(60, 60), x -> x.board(wrong));
            }
        });
        Edge.test("Throws `IllegalStateException` if it is not grappled, or has boarded in this round", () -> {
            Edge.refused("not grappled", Edge.STATE, Scenes::duel, x -> x.board(0));
            Edge.refused("cut", Edge.STATE, () -> {
                HexBroadsides x = Scenes.tied(60, 60);
                x.cut(1);
                return x;
            }, x -> x.board(0));
            Edge.refused("sunk, and so not grappled", Edge.STATE, () -> {
                HexBroadsides x = Scenes.duel(18, 12, 60);
                x.grapple(0, 1);
                x.fire(0, true, 1, 0);
                return x;
            }, x -> x.board(1));
            Edge.Maker boarded = () -> {
                HexBroadsides x = Scenes.tied(60, 60);
                x.board(0);
                return x;
            };
            Edge.refused("has boarded in this round", Edge.STATE, boarded, x -> x.board(0));
            Edge.answers("was boarded in this round", 0, boarded, x -> x.board(1));
            Edge.refused("has boarded, and is grappled to another one", Edge.STATE, () -> {
                HexBroadsides x = Scenes.tied(60, 1);
                x.addShip(1, 45, 0, 60, 12, 60);
                x.board(0);
                x.grapple(0, 2);
                return x;
            }, x -> x.board(0));
            Edge.refused("has boarded, and was taken", Edge.STATE, () -> {
                HexBroadsides x = Scenes.tied(60, 20);
                x.addShip(1, 64, 0, 60, 12, 60);
                x.board(1);
                x.board(0);
                x.grapple(1, 2);
                return x;
            }, x -> x.board(1));
        });
    }
}
