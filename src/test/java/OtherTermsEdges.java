/** The sections behind "Boarding." of the document's terms, and what stands ahead of its promises. */
final class OtherTermsEdges {
    private OtherTermsEdges() {
    }

    static void run() {
        drifting();
        nextRound();
        orders();
        syntaxErrors();
        undo();
        exceptions();
        names();
    }

    /** The hulk without sails lies at 54; the gunners at 44 and 64 keep theirs. */
    private static HexBroadsides hulk(int wind, int strength) {
        HexBroadsides x = Scenes.sails(0);
        x.setWind(wind, strength);
        return x;
    }

    /** The numbers 0 and 1 without sails at these cells, side by side or not; the gunners are 2 and 3. */
    private static HexBroadsides hulks(int first, int second) {
        HexBroadsides x = new HexBroadsides();
        x.addShip(1, first, 1, 60, 12, 60);
        x.addShip(1, second, 1, 60, 12, 60);
        x.addShip(0, first - 10, 0, 60, 12, 60);
        x.addShip(0, second + 10, 0, 60, 12, 60);
        x.fire(2, true, 0, 1);
        x.fire(3, false, 1, 1);
        return x;
    }

    private static void drifting() {
        Edge.section("The end of a round.");
        Edge.test("The ships that are afloat are gone through in ascending order", () -> {
            HexBroadsides x = hulks(44, 43);
            Due.is("the lower number makes room for the higher", x.endRound(), 2);
            Due.is("its cell", x.ship(0, 1), 45);
            Due.is("the cell of the higher number", x.ship(1, 1), 44);
            HexBroadsides y = hulks(43, 44);
            Due.is("the lower number is blocked by the higher", y.endRound(), 1);
            Due.is("its cell", y.ship(0, 1), 43);
            Due.is("the cell of the higher number", y.ship(1, 1), 45);
            HexBroadsides z = new HexBroadsides();
            z.addShip(0, 33, 0, 60, 12, 60);
            z.addShip(1, 43, 1, 36, 12, 60);
            z.setWind(0, 0);
            z.fire(0, true, 1, 1);
            z.endRound();
            z.fire(0, true, 1, 0);
            z.setWind(0, 2);
            Due.is("a hulk that is sunk does not drift", z.endRound(), 0);
        });
        Edge.test("one with sails 0 that is not grappled drifts", () -> {
            Due.is("no sails", hulk(0, 2).endRound(), 1);
            HexBroadsides x = Scenes.sails(1);
            Due.is("one sail", x.endRound(), 0);
            Due.is("its cell", x.ship(0, 1), 54);
            HexBroadsides y = hulk(0, 2);
            y.grapple(0, 1);
            Due.is("no sails, but grappled", y.endRound(), 0);
            Due.is("its cell", y.ship(0, 1), 54);
            y.cut(1);
            Due.is("cut", y.endRound(), 1);
        });
        Edge.test("it moves 1 cell in the direction of the wind", () -> {
            int[] due = {55, 64, 63, 53, 44, 45};
            for (int wind = 0; wind < 6; wind++) {
                HexBroadsides x = Scenes.sails(0);
                x.begin(10, 8);
                x.addShip(1, 54, wind, 60, 12, 60);
                int gunner = x.addShip(0, 54 + due[(wind + 2) % 6] - 54, (wind + 4) % 6, 60, 12, 60);
                int other = x.addShip(0, 54 + due[(wind + 4) % 6] - 54, (wind + 3) % 6, 60, 8, 60);
                shootSailsAway(x, gunner);
                shootSailsAway(x, other);
                Due.is("sails", x.ship(0, 4), 0);
                x.setWind(wind, 3);
                Due.is("drifts in a wind of 3", x.endRound(), 1);
                Due.is("its cell in the wind " + wind, x.ship(0, 1), due[wind]);
                Due.is("its heading", x.ship(0, 2), wind);
            }
        });
        Edge.test("if that cell is free", () -> {
            HexBroadsides rock = hulk(0, 2);
            rock.setRock(55, true);
            Due.is("onto a rock", rock.endRound(), 0);
            Due.is("the cell", rock.ship(0, 1), 54);
            HexBroadsides ship = hulk(1, 2);
            Due.is("onto a ship", ship.endRound(), 0);
            Due.is("the cell", ship.ship(0, 1), 54);
            HexBroadsides border = hulk(0, 2);
            for (int cell = 55; cell <= 59; cell++) {
                Due.is("up to the border", border.endRound(), 1);
                Due.is("the cell", border.ship(0, 1), cell);
            }
            Due.is("over the border", border.endRound(), 0);
            Due.is("the cell", border.ship(0, 1), 59);
            HexBroadsides sunk = hulk(0, 2);
            sunk.addShip(0, 55, 0, 1, 0, 1);
            sunk.addShip(1, 65, 0, 60, 12, 60);
            sunk.fire(4, false, 3, 0);
            Due.is("over a ship that is sunk", sunk.endRound(), 1);
        });
        Edge.test("and the strength is above 0.", () -> {
            Due.is("the strength 1", hulk(0, 1).endRound(), 1);
            HexBroadsides x = hulk(0, 0);
            Due.is("the strength 0", x.endRound(), 0);
            Due.is("the cell", x.ship(0, 1), 54);
        });
    }

    private static void shootSailsAway(HexBroadsides x, int gunner) {
        boolean right = x.force(gunner, true, 0) > 0;
        x.fire(gunner, right, 0, 1);
    }

    private static void nextRound() {
        Edge.test("Then each wait above 0 decreases by 1", () -> {
            HexBroadsides x = new HexBroadsides();
            x.addShip(0, 44, 0, 60, 12, 20);
            x.addShip(1, 64, 0, 18, 11, 60);
            x.addShip(1, 34, 0, 60, 12, 60);
            x.fire(1, false, 0, 2);
            x.fire(0, true, 1, 1);
            x.fire(0, false, 2, 1);
            Due.is("a left wait of 2", x.ship(0, 9), 2);
            Due.is("a right wait of 2", x.ship(0, 10), 2);
            x.endRound();
            Due.is("left, 2 less 1", x.ship(0, 9), 1);
            Due.is("right, 2 less 1", x.ship(0, 10), 1);
            Due.is("1 less 1", x.ship(1, 9), 0);
            Due.is("0 stays 0", x.ship(1, 10), 0);
            x.endRound();
            Due.is("left, 1 less 1", x.ship(0, 9), 0);
            Due.is("right, 1 less 1", x.ship(0, 10), 0);
            Due.is("0 stays 0", x.ship(1, 9), 0);
            HexBroadsides y = Scenes.duel(18, 12, 60);
            y.fire(1, false, 0, 1);
            y.fire(0, true, 1, 0);
            Due.is("the wait of a sunk ship", y.ship(1, 9), 1);
            y.endRound();
            Due.is("then", y.ship(1, 9), 0);
        });
        Edge.test("the round increases by 1", () -> {
            HexBroadsides x = new HexBroadsides();
            x.endRound();
            Due.is("without ships", x.value(4), 2);
            x.endRound();
            Due.is("once more", x.value(4), 3);
        });
        Edge.test("and the next round begins.", () -> {
            HexBroadsides x = Scenes.tied(60, 60);
            x.board(0);
            x.setWind(1, 2);
            x.endRound();
            Due.is("points", x.ship(0, 8), 6);
            Due.is("it has not boarded yet", x.ship(0, 14), 0);
            HexBroadsides y = Scenes.lone(44, 2);
            y.ahead(0);
            y.endRound();
            Due.is("nor moved", Due.answerOf(() -> y.turn(0, true)).equals("throws.IllegalStateException") ? 0 : 1, 0);
        });
    }

    private static void orders() {
        Edge.section("Order text.");
        Edge.test("The text has at most 150 bytes.", () -> {
            Edge.answers("the byte 150", 150, () -> Scenes.bytes(149), x -> x.append('a'));
            Edge.refused("the byte 151", Edge.STATE, () -> Scenes.bytes(150), x -> x.append('e'));
            Edge.answers("a text of 150 bytes", 75, () -> Scenes.bytes(150), x -> x.carryOut());
            Edge.answers("when it is empty again", 1, () -> Scenes.bytes(150), x -> {
                x.clearText();
                return x.append('e');
            });
        });
        Edge.test("It is a sequence of orders, each terminated by a semicolon", () -> {
            Edge.answers("one order", 1, () -> Scenes.text("e;"), x -> x.carryOut());
            Edge.answers("three orders", 3, () -> Scenes.text("e;w1;e;"), x -> x.carryOut());
            Edge.refusedText("e", 1);
            Edge.refusedText("ee;", 1);
            Edge.refusedText("e;e", 3);
            Edge.refusedText("e;;", 2);
            Edge.refusedText(";e;", 0);
            Edge.refusedText("w1e;", 2);
            Edge.refusedText("0a0a;", 2);
        });
        Edge.test("a ship digit (0 to 9)", () -> {
            Edge.answers("the digit 0", 1, () -> moving("0a;"), x -> x.carryOut());
            Edge.answers("the digit 1", 1, () -> moving("1a;"), x -> x.carryOut());
            for (char digit = '2'; digit <= '9'; digit++) {
                String order = digit + "a;";
                Edge.answers(order + " is no syntax error", 0, () -> moving(order), x -> x.carryOut());
            }
            Edge.refusedText("/a;", 0);
            Edge.refusedText(":a;", 0);
            Edge.refusedText("10a;", 1);
        });
        Edge.test("and \"a\" to move ahead", () -> {
            HexBroadsides x = moving("1a;");
            x.carryOut();
            Due.is("its cell", x.ship(1, 1), 65);
            Due.is("its points", x.ship(1, 8), 3);
            Edge.refusedText("1A;", 1);
            Edge.refusedText("1;", 1);
        });
        Edge.test("\"l\" or \"r\" to turn left or right", () -> {
            HexBroadsides x = moving("0l;1r;");
            x.carryOut();
            Due.is("to the left", x.ship(0, 2), 5);
            Due.is("to the right", x.ship(1, 2), 1);
            Edge.refusedText("0L;", 1);
            Edge.refusedText("0R;", 1);
            Edge.refusedText("l;", 0);
        });
        Edge.test("or \"w\" and a digit 0 to 5: the wind blows in this direction", () -> {
            for (int wind = 0; wind <= 5; wind++) {
                HexBroadsides x = Scenes.text("w" + wind + ";");
                x.setWind(3, 1);
                Due.is("w" + wind, x.carryOut(), 1);
                Due.is("the direction", x.value(2), wind);
                Due.is("the strength", x.value(3), 1);
            }
            Edge.refusedText("w6;", 1);
            Edge.refusedText("w/;", 1);
            Edge.refusedText("w;", 1);
            Edge.refusedText("w00;", 2);
        });
        Edge.test("or \"e\": the round ends.", () -> {
            HexBroadsides x = Scenes.text("e;e;");
            Due.is("two rounds", x.carryOut(), 2);
            Due.is("the round", x.value(4), 3);
            HexBroadsides y = Scenes.sails(0);
            Due.append(y, "e;");
            y.carryOut();
            Due.is("a hulk drifts", y.ship(0, 1), 55);
            Due.is("waits are over", y.ship(1, 10), 0);
            Edge.refusedText("E;", 0);
        });
    }

    private static HexBroadsides moving(String orders) {
        HexBroadsides x = Scenes.lone(44, 0);
        x.addShip(1, 64, 0, 60, 12, 60);
        Due.append(x, orders);
        return x;
    }

    private static void syntaxErrors() {
        Edge.test("There are no spaces", () -> {
            Edge.refusedText(" e;", 0);
            Edge.refusedText("e ;", 1);
            Edge.refusedText("e; e;", 2);
            Edge.refusedText("0 a;", 1);
            Edge.refusedText("w 0;", 1);
            Edge.refusedText("e; ", 2);
            Edge.refusedText("e;\n", 2);
        });
        Edge.test("there may be no orders.",
                () -> Edge.answers("the empty text", 0, HexBroadsides::new, x -> x.carryOut()));
        Edge.test("The syntax error position is the index of the first byte that cannot stand where it stands", () -> {
            String[] ahead = {"", "0", "w", "e", "0a", "w5", "e;", "9r;"};
            String[] good = {"0123456789we", "alr", "012345", ";", ";", ";", "0123456789we", "0123456789we"};
            for (int i = 0; i < ahead.length; i++) {
                for (int value = 0; value <= 127; value++) {
                    HexBroadsides x = Scenes.text(ahead[i]);
                    x.append(value);
                    Due.append(x, "?");
                    int first = good[i].indexOf(value) < 0 ? ahead[i].length() : ahead[i].length() + 1;
                    Due.is("the byte " + value + " behind '" + ahead[i] + "'", x.carryOut(), -10 - first);
                }
            }
            Edge.refusedText("e;e;e;x;y;", 6);
        });
        Edge.test("or the length of the text if the text ends too early.", () -> {
            Edge.refusedText("0", 1);
            Edge.refusedText("w", 1);
            Edge.refusedText("e", 1);
            Edge.refusedText("0a", 2);
            Edge.refusedText("w0", 2);
            Edge.refusedText("0a;0", 4);
            Edge.answers("149 bytes", -159, () -> Scenes.bytes(149), x -> x.carryOut());
        });
    }

    private static void undo() {
        Edge.section("Undo.");
        Edge.test("Each successful call of a method whose description says \"undoable\" saves the state from before"
                + " the call, even if the call changes nothing", () -> {
            Edge.undoable("setRock of what it is", Scenes::duel, x -> x.setRock(0, false));
            Edge.undoable("setWind of what it is", Scenes::duel, x -> x.setWind(0, 2));
            Edge.undoable("carryOut of no order", Scenes::duel, x -> x.carryOut());
            Edge.undoable("carryOut of an order that is not possible", () -> moving("7a;"), x -> x.carryOut());
            Edge.undoable("begin of the same", HexBroadsides::new, x -> x.begin(10, 8));
            Edge.undoable("fire without a loss", () -> {
                HexBroadsides x = Scenes.sea(12, 12);
                x.addShip(0, 6, 0, 60, 1, 60);
                x.addShip(1, 78, 0, 60, 12, 60);
                return x;
            }, x -> x.fire(0, true, 1, 0));
            Edge.answers("setRock twice", 2, HexBroadsides::new, x -> {
                x.setRock(0, false);
                x.setRock(0, false);
                x.setRock(0, false);
                return x.undo();
            });
        });
        Edge.test("at most 4 states are saved, and the oldest is dropped first.", () -> {
            for (int calls = 0; calls <= 7; calls++) {
                HexBroadsides x = new HexBroadsides();
                for (int i = 0; i < calls; i++) {
                    x.setRock(i, true);
                }
                int saved = Math.min(4, calls);
                for (int left = saved - 1; left >= 0; left--) {
                    Due.is("undo() behind " + calls + " calls", x.undo(), left);
                    Due.is("the last rock", x.value(9), calls - saved + left - 1);
                }
                Due.same("one more undo()", Due.answerOf(() -> x.undo()), "throws.IllegalStateException");
            }
        });
        Edge.test("The saved state contains everything except the order text.", OtherTermsEdges::savedState);
    }

    private static void savedState() {
        HexBroadsides x = Scenes.sea(11, 9);
        x.setRock(98, true);
        x.addShip(0, 50, 2, 60, 12, 60);
        x.addShip(1, 61, 0, 60, 12, 20);
        x.addShip(0, 72, 0, 60, 12, 60);
        x.grapple(0, 1);
        x.board(1);
        x.fire(0, false, 1, 1);
        x.endRound();
        x.cut(0);
        x.addShip(1, 20, 0, 60, 12, 60);
        x.addShip(0, 21, 0, 60, 12, 60);
        x.grapple(3, 4);
        x.board(3);
        x.fire(0, false, 1, 1);
        x.ahead(0);
        String before = Due.portrait(x);
        x.begin(4, 4);
        x.addShip(1, 5, 3, 1, 1, 1);
        x.addShip(0, 6, 3, 2, 2, 2);
        x.setWind(4, 1);
        Due.is("four times undo()", x.undo() + x.undo() + x.undo() + x.undo(), 6);
        Due.same("all that can be asked", Due.portrait(x), before);
        Due.is("the way for a tack", x.turn(0, true), 3);
        x.fire(1, true, 2, 1);
        Due.is("the first crew, for the wait", x.ship(1, 10), 2);
        HexBroadsides y = Scenes.text("e;");
        y.endRound();
        Due.append(y, "e");
        Due.is("undo() behind append", y.undo(), 0);
        Due.is("the text stays", y.clearText(), 3);
        y.endRound();
        y.undo();
        Due.is("and stays empty", y.clearText(), 0);
    }

    private static void exceptions() {
        Edge.section("Exceptions.");
        Edge.test("A call that throws an exception changes nothing.", () -> {
            Edge.Maker full = () -> {
                HexBroadsides x = Scenes.tied(60, 60);
                x.setRock(3, true);
                x.setRock(4, true);
                Due.append(x, "e;w3;");
                return x;
            };
            Edge.refused("begin", Edge.ARGUMENT, full, x -> x.begin(3, 3));
            Edge.refused("setRock", Edge.STATE, full, x -> x.setRock(44, true));
            Edge.refused("setWind", Edge.ARGUMENT, full, x -> x.setWind(1, 4));
            Edge.refused("addShip", Edge.STATE, full, x -> x.addShip(0, 3, 0, 1, 0, 1));
            Edge.refused("ahead", Edge.STATE, full, x -> x.ahead(0));
            Edge.refused("turn", Edge.STATE, full, x -> x.turn(0, true));
            Edge.refused("fire", Edge.STATE, full, x -> x.fire(0, false, 1, 0));
            Edge.refused("grapple", Edge.STATE, full, x -> x.grapple(0, 1));
            Edge.refused("cut", Edge.BOUNDS, full, x -> x.cut(2));
            Edge.refused("board", Edge.BOUNDS, full, x -> x.board(2));
            Edge.refused("append", Edge.ARGUMENT, full, x -> x.append(128));
            Edge.refused("undo", Edge.STATE, HexBroadsides::new, x -> x.undo());
        });
        Edge.test("If several exceptions apply, the one that is listed first is thrown.", () -> {
            Edge.refused("addShip: cell and side", Edge.BOUNDS, () -> Scenes.fleet(8), x -> x.addShip(2, 80, 0, 1, 0, 1));
            Edge.refused("addShip: side and a ninth ship", Edge.ARGUMENT, () -> Scenes.fleet(8),
                    x -> x.addShip(2, 20, 0, 1, 0, 1));
            Edge.refused("ship: ship and what", Edge.BOUNDS, Scenes::duel, x -> x.ship(2, 15));
            Edge.refused("force: ship, and both the same", Edge.BOUNDS, Scenes::duel, x -> x.force(2, true, 2));
            Edge.refused("fire: ship and aim", Edge.BOUNDS, Scenes::duel, x -> x.fire(2, true, 0, 3));
            Edge.refused("fire: aim and arc", Edge.ARGUMENT, Scenes::duel, x -> x.fire(0, false, 1, 3));
            Edge.refused("grapple: both the same, and of one side", Edge.ARGUMENT, Scenes::duel, x -> x.grapple(0, 0));
            Edge.refused("append: value and length", Edge.ARGUMENT, () -> Scenes.bytes(150), x -> x.append(128));
        });
    }

    private static void names() {
        Edge.section("The constants:");
        Edge.test("`NONE = -1`: There is no such thing.", () -> {
            Due.is("NONE", HexBroadsides.NONE, -1);
            Due.is("what is on a free cell", new HexBroadsides().at(0), HexBroadsides.NONE);
        });
        String[] groups = {"---- sea.", "---- moves.", "---- fights.", "---- what if.", "---- text.", "---- state."};
        for (String group : groups) {
            Edge.section("Ahead of the calls");
            Page.skipTo(group);
            Edge.plain(group, "it tells the order of the face, and asks for nothing");
        }
    }
}
