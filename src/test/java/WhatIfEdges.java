import java.util.Arrays;

/** Promises 19 to 23 of the document. */
final class WhatIfEdges {
    private WhatIfEdges() {
    }

    static void run() {
        reach();
        pointsAt();
        bestShot();
        bestWind();
        balance();
    }

    /**
     * Ship 0 in the middle of a sea of 5 to 5, with a rock and another ship near it: it has six
     * points, or five and way, if it came there by a move ahead; then the wind turns.
     */
    private static HexBroadsides sailing(int heading, int wind, boolean way) {
        int[] rowStep = {0, 1, 1, 0, -1, -1};
        int[] columnStep = {1, 0, -1, -1, 0, 1};
        HexBroadsides x = Scenes.sea(5, 5);
        x.setWind(heading, 3);
        int start = way ? 12 - 5 * rowStep[heading] - columnStep[heading] : 12;
        x.addShip(0, start, heading, 60, 12, 60);
        if (way) {
            x.ahead(0);
        }
        x.setRock(8, true);
        x.addShip(1, 16, 0, 60, 12, 60);
        x.setWind(wind, 3);
        return x;
    }

    /** For each cell the most points left, found by carrying out every text of orders. */
    private static int[] played(Edge.Maker maker, int cells) {
        int[] most = new int[cells];
        Arrays.fill(most, HexBroadsides.NONE);
        play(maker, "", most);
        return most;
    }

    private static void play(Edge.Maker maker, String orders, int[] most) {
        HexBroadsides x = maker.make();
        Due.append(x, orders);
        if (x.carryOut() < orders.length() / 3) {
            return;
        }
        int cell = x.ship(0, 1);
        int points = x.ship(0, 8);
        most[cell] = Math.max(most[cell], points);
        if (points > 0) {
            play(maker, orders + "0a;", most);
            play(maker, orders + "0l;", most);
            play(maker, orders + "0r;", most);
        }
    }

    /** Ship 0 turns to and fro until it has this number of points left. */
    private static Edge.Maker downTo(int points, Edge.Maker maker) {
        return () -> {
            HexBroadsides x = maker.make();
            for (int i = 0; i < 9 && x.ship(0, 8) > points; i++) {
                x.turn(0, i % 2 == 0);
            }
            return x;
        };
    }

    private static void reach() {
        Edge.section("## Promise 19: reach");
        Edge.test("Counts the cells that a ship could reach in this round, its own included.", () -> {
            for (int heading = 0; heading < 6; heading++) {
                for (int wind = 0; wind < 6; wind++) {
                    int h = heading;
                    int w = wind;
                    for (int points = 1; points <= 5; points++) {
                        Edge.Maker rested = downTo(points, () -> sailing(h, h, false));
                        Edge.Maker there = () -> {
                            HexBroadsides x = rested.make();
                            x.setWind(w, 3);
                            return x;
                        };
                        asPlayed(there, 25, "heading " + h + ", wind " + w + ", points " + points);
                    }
                    asPlayed(() -> sailing(h, w, true), 25, "way, heading " + h + ", wind " + w);
                }
            }
            Due.is("points", ninePoints().ship(0, 8), 9);
            asPlayed(WhatIfEdges::ninePoints, 144, "the most points that there can be");
            Edge.changesNothing("reach", Scenes::duel, x -> x.reach(0));
        });
        Edge.test("`ship`: number of a ship", () -> {
            HexBroadsides x = Scenes.fleet(8);
            Due.is("the first one, which can go 10, 20, 30 and 11", x.reach(0), 5);
            Due.is("the last one", x.reach(7), 12);
        });
        Edge.test("Returns their number; 0 if it is sunk.", () -> {
            Due.is("sunk", Scenes.hit(18).reach(1), 0);
            Due.is("a hull of 1", Scenes.hit(19).reach(1) > 0 ? 1 : 0, 1);
            Due.is("grappled", Scenes.tied(60, 60).reach(0), 1);
            Due.is("without sails", Scenes.sails(0).reach(0), 1);
            Due.is("one point", onePoint(0).reach(0), 2);
            Due.is("one point, at the angle 3", onePoint(3).reach(0), 1);
            HexBroadsides none = onePoint(0);
            none.ahead(0);
            Due.is("no points", none.reach(0), 1);
            HexBroadsides shut = onePoint(0);
            shut.setRock(45, true);
            Due.is("one point, and a rock ahead", shut.reach(0), 1);
        });
        Edge.test("Throws `IndexOutOfBoundsException` if there is no such ship", () -> {
            for (int wrong : Edge.outside(0, 1)) {
                Edge.refused("reach(" + wrong + ")", Edge.BOUNDS, Scenes::duel, x -> x.reach(wrong));
            }
            Edge.refused("reach(0) of none", Edge.BOUNDS, HexBroadsides::new, x -> x.reach(0));
        });
    }

    private static HexBroadsides onePoint(int heading) {
        HexBroadsides x = Scenes.wind(0, 0);
        x.addShip(0, 44, heading, 60, 12, 60);
        return x;
    }

    /** No ship ever has more points. */
    private static HexBroadsides ninePoints() {
        HexBroadsides x = Scenes.sea(12, 12);
        x.setWind(1, 3);
        x.addShip(0, 66, 0, 60, 12, 60);
        return x;
    }

    private static void asPlayed(Edge.Maker maker, int cells, String what) {
        int[] most = played(maker, cells);
        int reached = 0;
        for (int cell = 0; cell < cells; cell++) {
            reached += most[cell] >= 0 ? 1 : 0;
        }
        Due.is("reach with " + what, maker.make().reach(0), reached);
        HexBroadsides x = maker.make();
        for (int cell = 0; cell < cells; cell++) {
            Due.is("pointsAt " + cell + " with " + what, x.pointsAt(0, cell), most[cell]);
        }
    }

    private static void pointsAt() {
        Edge.section("## Promise 20: pointsAt");
        Edge.test("Tells with how many points left a ship could reach a cell in this round.", () -> {
            HexBroadsides x = Scenes.lone(44, 0);
            int[][] due = {{44, 4}, {45, 3}, {46, 2}, {47, 1}, {48, 0}, {49, -1}, {54, 2}, {35, 2}, {53, 1}, {34, 1},
                {55, 1}, {43, -1}};
            for (int[] d : due) {
                Due.is("pointsAt(0, " + d[0] + ")", x.pointsAt(0, d[0]), d[1]);
            }
            Edge.changesNothing("pointsAt", Scenes::duel, y -> y.pointsAt(0, 46));
        });
        Edge.test("`ship`: number of a ship", () -> {
            Due.is("the first one", Scenes.fleet(8).pointsAt(0, 10), 2);
            Due.is("the last one", Scenes.fleet(8).pointsAt(7, 8), 3);
        });
        Edge.test("`cell`: number of a cell", () -> {
            Due.is("the first cell", Scenes.lone(0, 0).pointsAt(0, 0), 4);
            Due.is("the last cell", Scenes.lone(78, 0).pointsAt(0, 79), 3);
        });
        Edge.test("Returns the greatest number of points left, with any heading; NONE if it cannot reach it, or is"
                + " sunk.", () -> {
            Due.is("the own cell, as it is", Scenes.lone(44, 0).pointsAt(0, 44), 4);
            Due.is("the own cell of a hull of 1", Scenes.hit(19).pointsAt(1, 54), 4);
            Due.is("the cell of a sunk ship", Scenes.hit(18).pointsAt(1, 54), HexBroadsides.NONE);
            Due.is("next to a sunk ship", Scenes.hit(18).pointsAt(1, 55), HexBroadsides.NONE);
            Due.is("over a sunk ship", Scenes.hit(18).pointsAt(0, 54), 2);
            Due.is("onto a ship", Scenes.hit(19).pointsAt(0, 54), HexBroadsides.NONE);
            Due.is("the own cell, grappled", Scenes.tied(60, 60).pointsAt(0, 44), 4);
            Due.is("the next cell, grappled", Scenes.tied(60, 60).pointsAt(0, 45), HexBroadsides.NONE);
            Due.is("the own cell, without sails", Scenes.sails(0).pointsAt(0, 54), 4);
            Due.is("the next cell, without sails", Scenes.sails(0).pointsAt(0, 55), HexBroadsides.NONE);
            HexBroadsides x = onePoint(0);
            Due.is("with 1 point left for it", x.pointsAt(0, 45), 0);
            x.ahead(0);
            Due.is("the own cell without points", x.pointsAt(0, 45), 0);
            Due.is("the next cell without points", x.pointsAt(0, 46), HexBroadsides.NONE);
            HexBroadsides rock = Scenes.lone(44, 0);
            rock.setRock(45, true);
            Due.is("onto a rock", rock.pointsAt(0, 45), HexBroadsides.NONE);
            Due.is("against the wind", onePoint(3).pointsAt(0, 43), HexBroadsides.NONE);
        });
        Edge.test("Throws `IndexOutOfBoundsException` if there is no such ship or cell", () -> {
            for (int wrong : Edge.outside(0, 1)) {
                Edge.refused("the ship " + wrong, Edge.BOUNDS, Scenes::duel, x -> x.pointsAt(wrong, 0));
                Edge.refused("the ship " + wrong + " and the cell", Edge.BOUNDS, Scenes::duel, x -> x.pointsAt(wrong, -1));
            }
            for (int wrong : Edge.outside(0, 79)) {
                Edge.refused("the cell " + wrong, Edge.BOUNDS, Scenes::duel, x -> x.pointsAt(0, wrong));
                Edge.refused("the cell " + wrong + " for a sunk ship", Edge.BOUNDS, () -> Scenes.hit(18),
                        x -> x.pointsAt(1, wrong));
            }
            Edge.refused("the cell 16 of the least sea", Edge.BOUNDS, () -> {
                HexBroadsides x = Scenes.sea(4, 4);
                x.addShip(0, 0, 0, 1, 0, 1);
                return x;
            }, x -> x.pointsAt(0, 16));
        });
    }

    private static void bestShot() {
        Edge.section("## Promise 21: bestShot");
        Edge.test("Finds the target of a ship with the greatest force, of both its sides of guns, loaded or not.", () -> {
            HexBroadsides x = Scenes.duel();
            x.addShip(1, 24, 0, 60, 12, 60);
            Due.is("the nearer one at the right", x.bestShot(0), 3);
            x.addShip(1, 34, 1, 60, 12, 60);
            Due.is("the one at the left that is raked", x.bestShot(0), 6);
            x.fire(0, false, 3, 1);
            Due.is("with a wait", x.bestShot(0), 6);
            x.fire(0, true, 1, 1);
            Due.is("with both waits", x.bestShot(0), 6);
            HexBroadsides y = Scenes.hit(60);
            y.addShip(0, 64, 0, 60, 12, 60);
            Due.is("with the guns that are left", y.bestShot(1), 5);
            Edge.changesNothing("bestShot", Scenes::duel, z -> z.bestShot(0));
        });
        Edge.test("`ship`: number of a ship", () -> {
            Due.is("the first one", Scenes.duel().bestShot(0), 3);
            Due.is("the last one", Scenes.duel().bestShot(1), 0);
        });
        Edge.test("Returns 2 * (number of the target) + (0 for the left guns, 1 for the right ones), of several the"
                + " lowest such number; NONE if there is no force above 0.", () -> {
            Due.is("the ship 0 with the left guns", Scenes.duel().bestShot(1), 0);
            Due.is("the ship 1 with the right guns", Scenes.duel().bestShot(0), 3);
            HexBroadsides x = Scenes.duel();
            x.addShip(1, 34, 0, 60, 12, 60);
            Due.is("the same force at the right and at the left", x.bestShot(0), 3);
            HexBroadsides y = Scenes.lone(44, 0);
            y.addShip(1, 34, 0, 60, 12, 60);
            y.addShip(1, 54, 0, 60, 12, 60);
            Due.is("the same force at the left and at the right", y.bestShot(0), 2);
            Due.is("without another ship", Scenes.lone(44, 0).bestShot(0), HexBroadsides.NONE);
            Due.is("without guns", Scenes.fleet(8).bestShot(0), HexBroadsides.NONE);
            Due.is("by a sunk ship", Scenes.hit(18).bestShot(1), HexBroadsides.NONE);
            Due.is("at a sunk ship", Scenes.hit(18).bestShot(0), HexBroadsides.NONE);
            HexBroadsides far = Scenes.sea(12, 12);
            far.addShip(0, 6, 0, 60, 1, 60);
            far.addShip(1, 90, 0, 60, 12, 60);
            Due.is("at the distance 7", far.bestShot(0), HexBroadsides.NONE);
            far.addShip(1, 77, 0, 60, 12, 60);
            Due.is("the least force", far.force(0, true, 2), 1);
            Due.is("with the least force", far.bestShot(0), 5);
        });
        Edge.test("Throws `IndexOutOfBoundsException` if there is no such ship", () -> {
            for (int wrong : Edge.outside(0, 1)) {
                Edge.refused("bestShot(" + wrong + ")", Edge.BOUNDS, Scenes::duel, x -> x.bestShot(wrong));
            }
        });
    }

    private static void bestWind() {
        Edge.section("## Promise 22: bestWind");
        Edge.test("Finds the direction of the wind with which a ship would have the greatest speed, with the present"
                + " strength.", () -> {
            int[] due = {1, 0, 1, 2, 3, 0};
            for (int heading = 0; heading < 6; heading++) {
                for (int strength = 1; strength <= 3; strength++) {
                    HexBroadsides x = Scenes.lone(44, heading);
                    x.setWind(3, strength);
                    Due.is("heading " + heading + ", strength " + strength, x.bestWind(0), due[heading]);
                }
            }
            Due.is("three sails in a strength of 3", bestWind(3, 3), 1);
            Due.is("three sails in a strength of 1", bestWind(3, 1), 0);
            Edge.changesNothing("bestWind", Scenes::duel, x -> x.bestWind(0));
        });
        Edge.test("`ship`: number of a ship", () -> {
            Due.is("the first one", Scenes.fleet(8).bestWind(0), 1);
            Due.is("the last one", Scenes.fleet(8).bestWind(7), 1);
            Due.is("a sunk ship", Scenes.hit(18).bestWind(1), 1);
        });
        Edge.test("Returns the direction, of several the lowest one.", () -> {
            HexBroadsides x = Scenes.lone(44, 3);
            Due.is("2 and 4", x.bestWind(0), 2);
            Due.is("0 and 2", Scenes.lone(44, 1).bestWind(0), 0);
            Due.is("4 and 0", Scenes.lone(44, 5).bestWind(0), 0);
            x.setWind(5, 0);
            Due.is("all, in a calm", x.bestWind(0), 0);
            Due.is("all, without sails", bestWind(0, 3), 0);
        });
        Edge.test("Throws `IndexOutOfBoundsException` if there is no such ship", () -> {
            for (int wrong : Edge.outside(0, 1)) {
                Edge.refused("bestWind(" + wrong + ")", Edge.BOUNDS, Scenes::duel, x -> x.bestWind(wrong));
            }
        });
    }

    private static int bestWind(int sails, int strength) {
        HexBroadsides x = Scenes.sails(sails);
        x.setWind(3, strength);
        return x.bestWind(0);
    }

    private static void balance() {
        Edge.section("## Promise 23: balance");
        Edge.test("Returns the strength of a side compared with both.",
                () -> Edge.changesNothing("balance", Scenes::duel, x -> x.balance(0)));
        Edge.test("`side`: 0 or 1", () -> {
            Due.is("side 0", Scenes.lone(44, 0).balance(0), 1.0);
            Due.is("side 1", Scenes.lone(44, 0).balance(1), 0.0);
        });
        Edge.test("Returns the sum of hull + crew of its ships that are afloat, converted to double, divided by that of"
                + " all ships that are afloat, converted to double; 0.5 if there is none.", () -> {
            HexBroadsides x = Scenes.duel(7, 12, 3);
            x.addShip(1, 0, 0, 1, 0, 2);
            Due.is("two sides: 0", x.balance(0), 120.0 / 133.0);
            Due.is("two sides: 1", x.balance(1), 13.0 / 133.0);
            Due.is("the least of all", Scenes.fleet(8).balance(0), 1.0);
            Due.is("a hull of 1", Scenes.hit(19).balance(1), 61.0 / 181.0);
            Due.is("a sunk ship has no crew", Scenes.hit(18).balance(1), 0.0);
            Due.is("nor for the other side", Scenes.hit(18).balance(0), 1.0);
            Due.is("no ships: 0", new HexBroadsides().balance(0), 0.5);
            Due.is("no ships: 1", new HexBroadsides().balance(1), 0.5);
            HexBroadsides y = Scenes.tied(30, 10);
            y.board(0);
            Due.is("a ship that is taken", y.balance(0), 1.0);
        });
        Edge.test("Throws `IllegalArgumentException` if side is out of range", () -> {
            for (int wrong : Edge.outside(0, 1)) {
                Edge.refused("balance(" + wrong + ")", Edge.ARGUMENT, Scenes::duel, x -> x.balance(wrong));
                Edge.refused("balance(" + wrong + ") without ships", Edge.ARGUMENT, HexBroadsides::new,
                        x -> x.balance(wrong));
            }
        });
    }
}
