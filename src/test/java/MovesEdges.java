/** Promises 11 to 13 of the document. */
final class MovesEdges {
    private MovesEdges() {
    }

    static void run() {
        ahead();
        aheadRefused();
        turn();
        turnRefused();
        endRound();
    }

    /** A ship in a calm, which has one point a round. */
    private static HexBroadsides calm(int heading) {
        HexBroadsides x = Scenes.wind(0, 0);
        x.addShip(0, 44, heading, 60, 12, 60);
        return x;
    }

    private static void ahead() {
        Edge.section("## Promise 11: ahead");
        Edge.test("Moves a ship ahead.", () -> {
            HexBroadsides x = Scenes.duel();
            x.ahead(1);
            Due.is("its cell", x.ship(1, 1), 55);
            Due.is("where it was", x.at(54), -1);
            Due.is("where it is", x.at(55), 1);
            Due.is("its points", x.ship(1, 8), 3);
            Due.is("its heading", x.ship(1, 2), 0);
            Due.is("the other ship's cell", x.ship(0, 1), 44);
            Due.is("the other ship's points", x.ship(0, 8), 4);
        });
        Edge.test("Undoable.", () -> {
            Edge.undoable("ahead", Scenes::duel, x -> x.ahead(0));
            Edge.undoable("ahead with the last point", () -> calm(0), x -> x.ahead(0));
        });
        Edge.test("`ship`: number of a ship", () -> {
            Edge.answers("the first one", 54, () -> {
                HexBroadsides x = Scenes.duel();
                x.ahead(1);
                x.turn(0, true);
                return x;
            }, x -> x.ahead(0));
            Edge.answers("the last one", 8, () -> Scenes.fleet(8), x -> x.ahead(7));
        });
        Edge.test("Returns its cell then.", () -> {
            HexBroadsides x = Scenes.lone(44, 0);
            for (int cell = 45; cell <= 48; cell++) {
                Due.is("ahead", x.ahead(0), cell);
            }
            Edge.answers("the cell 0", 0, () -> {
                HexBroadsides y = Scenes.wind(3, 2);
                y.addShip(0, 1, 3, 60, 12, 60);
                return y;
            }, y -> y.ahead(0));
        });
    }

    private static void aheadRefused() {
        Edge.test("Throws `IndexOutOfBoundsException` if there is no such ship", () -> {
            for (int wrong : Edge.outside(0, 1)) {
                Edge.refused("ahead(" + wrong + ")", Edge.BOUNDS, Scenes::duel, x -> x.ahead(wrong));
            }
            Edge.refused("ahead(8) of eight", Edge.BOUNDS, () -> Scenes.fleet(8), x -> x.ahead(8));
            Edge.refused("ahead(0) of none", Edge.BOUNDS, HexBroadsides::new, x -> x.ahead(0));
        });
        Edge.test("Throws `IllegalStateException` if it is sunk, or it is not possible", () -> {
            Edge.answers("a hull of 1", 55, () -> Scenes.hit(19), x -> x.ahead(1));
            Edge.refused("sunk", Edge.STATE, () -> Scenes.hit(18), x -> x.ahead(1));
            Edge.answers("the last point", 45, () -> calm(0), x -> x.ahead(0));
            Edge.refused("no points", Edge.STATE, () -> {
                HexBroadsides x = calm(0);
                x.ahead(0);
                return x;
            }, x -> x.ahead(0));
            Edge.answers("the angle 2", 53, () -> calm(2), x -> x.ahead(0));
            Edge.refused("the angle 3", Edge.STATE, () -> calm(3), x -> x.ahead(0));
            Edge.refused("a rock ahead", Edge.STATE, () -> {
                HexBroadsides x = calm(0);
                x.setRock(45, true);
                return x;
            }, x -> x.ahead(0));
            Edge.refused("a ship of the own side ahead", Edge.STATE, () -> {
                HexBroadsides x = calm(0);
                x.addShip(0, 45, 0, 1, 0, 1);
                return x;
            }, x -> x.ahead(0));
            Edge.refused("a ship of the other side ahead", Edge.STATE, () -> {
                HexBroadsides x = calm(0);
                x.addShip(1, 45, 0, 1, 0, 1);
                return x;
            }, x -> x.ahead(0));
            Edge.answers("cut", 45, () -> Scenes.tied(60, 60), x -> {
                x.cut(1);
                return x.ahead(0);
            });
            Edge.refused("grappled", Edge.STATE, () -> Scenes.tied(60, 60), x -> x.ahead(0));
            Edge.answers("one sail", 55, () -> Scenes.sails(1), x -> x.ahead(0));
            Edge.refused("no sails, but points", Edge.STATE, () -> Scenes.sails(0), x -> x.ahead(0));
            bordersAhead();
        });
    }

    /** At the border with this heading, in the middle of that border, the wind from behind. */
    private static void bordersAhead() {
        int[] inside = {48, 64, 64, 41, 14, 14};
        int[] border = {49, 74, 74, 40, 4, 4};
        for (int heading = 0; heading < 6; heading++) {
            int h = heading;
            for (int[] cells : new int[][] {inside, border}) {
                Edge.Maker there = () -> {
                    HexBroadsides x = Scenes.wind(h, 2);
                    x.addShip(0, cells[h], h, 60, 12, 60);
                    return x;
                };
                if (cells == border) {
                    Edge.refused("off the sea with the heading " + h, Edge.STATE, there, x -> x.ahead(0));
                } else {
                    Edge.answers("to the border with the heading " + h, 1, there, x -> x.ahead(0) >= 0 ? 1 : 0);
                }
            }
        }
        Edge.refused("off the left border with the heading 2", Edge.STATE, () -> Scenes.lone(40, 2), x -> x.ahead(0));
        Edge.refused("off the right border with the heading 5", Edge.STATE, () -> Scenes.lone(49, 5), x -> x.ahead(0));
    }

    private static void turn() {
        Edge.section("## Promise 12: turn");
        Edge.test("Turns a ship.", () -> {
            HexBroadsides x = Scenes.duel();
            x.turn(1, true);
            Due.is("its heading", x.ship(1, 2), 1);
            Due.is("its cell", x.ship(1, 1), 54);
            Due.is("its points", x.ship(1, 8), 3);
            Due.is("the other ship's heading", x.ship(0, 2), 0);
            Due.is("the other ship's points", x.ship(0, 8), 4);
        });
        Edge.test("Undoable.", () -> {
            Edge.undoable("a turn", Scenes::duel, x -> x.turn(0, true));
            Edge.undoable("a turn with the last point", () -> calm(0), x -> x.turn(0, false));
            Edge.undoable("a tack", () -> {
                HexBroadsides x = Scenes.lone(44, 2);
                x.ahead(0);
                return x;
            }, x -> x.turn(0, true));
        });
        Edge.test("`ship`: number of a ship", () -> {
            Edge.answers("the first one", 1, () -> Scenes.fleet(8), x -> x.turn(0, true));
            Edge.answers("the last one", 1, () -> Scenes.fleet(8), x -> x.turn(7, true));
        });
        Edge.test("`right`: true to the right, false to the left", () -> {
            Edge.answers("true", 1, () -> calm(0), x -> x.turn(0, true));
            Edge.answers("false", 5, () -> calm(0), x -> x.turn(0, false));
        });
        Edge.test("Returns its heading then.", () -> {
            Edge.answers("from 5 to the right", 0, () -> calm(5), x -> x.turn(0, true));
            Edge.answers("from 0 to the left", 5, () -> calm(0), x -> x.turn(0, false));
            Edge.answers("from 4 to the right", 5, () -> calm(4), x -> x.turn(0, true));
            Edge.answers("from 1 to the left", 0, () -> calm(1), x -> x.turn(0, false));
        });
    }

    private static void turnRefused() {
        Edge.test("Throws `IndexOutOfBoundsException` if there is no such ship", () -> {
            for (int wrong : Edge.outside(0, 1)) {
                Edge.refused("turn(" + wrong + ", true)", Edge.BOUNDS, Scenes::duel, x -> x.turn(wrong, true));
            }
            Edge.refused("turn(8, true) of eight", Edge.BOUNDS, () -> Scenes.fleet(8), x -> x.turn(8, true));
            Edge.refused("turn(0, true) of none", Edge.BOUNDS, HexBroadsides::new, x -> x.turn(0, true));
        });
        Edge.test("Throws `IllegalStateException` if it is sunk, or it is not possible", () -> {
            for (int i = 0; i < 2; i++) {
                boolean right = i == 1;
                Edge.answers("a hull of 1", right ? 1 : 5, () -> Scenes.hit(19), x -> x.turn(1, right));
                Edge.refused("sunk", Edge.STATE, () -> Scenes.hit(18), x -> x.turn(1, right));
                Edge.refused("no points", Edge.STATE, () -> {
                    HexBroadsides x = calm(0);
                    x.ahead(0);
                    return x;
                }, x -> x.turn(0, right));
                Edge.answers("cut", right ? 1 : 5, () -> Scenes.tied(60, 60), x -> {
                    x.cut(1);
                    return x.turn(0, right);
                });
                Edge.refused("grappled", Edge.STATE, () -> Scenes.tied(60, 60), x -> x.turn(0, right));
                Edge.answers("one sail", right ? 1 : 5, () -> Scenes.sails(1), x -> x.turn(0, right));
                Edge.refused("no sails, but points", Edge.STATE, () -> Scenes.sails(0), x -> x.turn(0, right));
                int close = right ? 2 : 4;
                Edge.refused("a tack without way", Edge.STATE, () -> Scenes.lone(44, close), x -> x.turn(0, right));
                Edge.answers("away from the wind without way", right ? 1 : 5, () -> Scenes.lone(44, close),
                        x -> x.turn(0, !right));
                Edge.answers("a tack with way", 3, () -> Scenes.lone(44, close), x -> {
                    x.setWind(0, 3);
                    x.endRound();
                    x.ahead(0);
                    return x.turn(0, right);
                });
            }
            Edge.answers("a rock and a ship ahead", 1, () -> {
                HexBroadsides x = Scenes.duel();
                x.setRock(45, true);
                return x;
            }, x -> x.turn(0, true));
        });
    }

    private static void endRound() {
        Edge.section("## Promise 13: endRound");
        Edge.test("Ends the round.", () -> {
            HexBroadsides x = Scenes.hit(60);
            x.ahead(0);
            x.endRound();
            Due.is("the round", x.value(4), 2);
            Due.is("points", x.ship(0, 8), 4);
            Due.is("the wait", x.ship(0, 10), 0);
        });
        Edge.test("Undoable.", () -> {
            Edge.undoable("endRound without ships", HexBroadsides::new, x -> x.endRound());
            Edge.undoable("endRound with way and a wait", () -> {
                HexBroadsides x = Scenes.wind(0, 2);
                x.addShip(0, 44, 2, 60, 12, 60);
                x.addShip(1, 34, 1, 60, 12, 60);
                x.ahead(0);
                return x;
            }, x -> x.endRound());
            Edge.undoable("endRound with a hulk", () -> Scenes.sails(0), x -> x.endRound());
            Edge.undoable("endRound behind a boarding", () -> {
                HexBroadsides x = Scenes.tied(60, 60);
                x.board(0);
                return x;
            }, x -> x.endRound());
        });
        Edge.test("Returns the number of ships that drifted.", () -> {
            Due.is("without ships", new HexBroadsides().endRound(), 0);
            Due.is("with sails", Scenes.fleet(8).endRound(), 0);
            Due.is("a hulk", Scenes.sails(0).endRound(), 1);
            HexBroadsides blocked = Scenes.sails(0);
            blocked.setRock(55, true);
            Due.is("a hulk that a rock stops", blocked.endRound(), 0);
            HexBroadsides becalmed = Scenes.sails(0);
            becalmed.setWind(0, 0);
            Due.is("a hulk in a calm", becalmed.endRound(), 0);
            HexBroadsides tied = Scenes.sails(0);
            tied.grapple(0, 1);
            Due.is("a hulk that is grappled", tied.endRound(), 0);
            Due.is("four hulks", fourHulks().endRound(), 4);
        });
    }

    /** The ships 0 to 3 of the side 1 without sails, each raked by the ship above it. */
    private static HexBroadsides fourHulks() {
        HexBroadsides x = new HexBroadsides();
        for (int i = 0; i < 4; i++) {
            x.addShip(1, 30 + 2 * i, 1, 60, 12, 60);
        }
        for (int i = 0; i < 4; i++) {
            int gunner = x.addShip(0, 20 + 2 * i, 0, 60, 12, 60);
            Due.is("sails", x.fire(gunner, true, i, 1), 20);
        }
        return x;
    }
}
