/** Promises 24 to 26 of the document. */
final class TextEdges {
    private TextEdges() {
    }

    static void run() {
        append();
        clearText();
        carryOut();
        carryOutAnswers();
    }

    private static void append() {
        Edge.section("## Promise 24: append");
        Edge.test("Appends a byte to the order text.", () -> {
            HexBroadsides x = Scenes.text("e");
            x.append(';');
            Due.is("the byte is behind the others", x.carryOut(), 1);
            Edge.answers("append saves no state", "throws.IllegalStateException", () -> Scenes.text("e;"), y -> y.undo());
            Edge.alike("append changed something but the text", () -> {
                HexBroadsides y = Scenes.duel();
                y.append('e');
                y.clearText();
                return y;
            }, Scenes::duel);
        });
        Edge.test("`value`: the byte, 0 to 127", () -> {
            for (int value = 0; value <= 127; value++) {
                HexBroadsides x = new HexBroadsides();
                Due.is("append(" + value + ")", x.append(value), 1);
                boolean begins = "0123456789we".indexOf(value) >= 0;
                Due.is("the byte " + value, x.carryOut(), begins ? -11 : -10);
            }
        });
        Edge.test("Returns the new length of the text.", () -> {
            HexBroadsides x = new HexBroadsides();
            for (int length = 1; length <= 150; length++) {
                Due.is("append", x.append(0), length);
            }
            x.clearText();
            Due.is("append behind clearText()", x.append(127), 1);
        });
        Edge.test("Throws `IllegalArgumentException` if value is out of range", () -> {
            for (int wrong : Edge.outside(0, 127)) {
                Edge.refused("append(" + wrong + ")", Edge.ARGUMENT, () -> Scenes.text("e;"), x -> x.append(wrong));
                Edge.refused("append(" + wrong + ") to the empty text", Edge.ARGUMENT, Scenes::duel, x -> x.append(wrong));
                Edge.refused("append(" + wrong + ") to a full text", Edge.ARGUMENT, () -> Scenes.bytes(150),
                        x -> x.append(wrong));
            }
        });
        Edge.test("Throws `IllegalStateException` if the text has 150 bytes", () -> {
            Edge.answers("the byte 150", 150, () -> Scenes.bytes(149), x -> x.append(0));
            Edge.refused("the byte 151, 0", Edge.STATE, () -> Scenes.bytes(150), x -> x.append(0));
            Edge.refused("the byte 151, 127", Edge.STATE, () -> Scenes.bytes(150), x -> x.append(127));
        });
    }

    private static void clearText() {
        Edge.section("## Promise 25: clearText");
        Edge.test("Empties the order text.", () -> {
            HexBroadsides x = Scenes.text("w5;w4;");
            x.clearText();
            Due.is("no orders", x.carryOut(), 0);
            Due.is("the wind", x.value(2), 0);
            Due.append(x, "e;");
            Due.is("only the new order", x.carryOut(), 1);
            Edge.alike("clearText changed something but the text", () -> {
                HexBroadsides y = Scenes.duel();
                Due.append(y, "0a");
                y.clearText();
                return y;
            }, Scenes::duel);
        });
        Edge.test("Returns the length that it had.", () -> {
            Edge.answers("the empty text", 0, HexBroadsides::new, x -> x.clearText());
            Edge.answers("one byte", 1, () -> Scenes.bytes(1), x -> x.clearText());
            Edge.answers("150 bytes", 150, () -> Scenes.bytes(150), x -> x.clearText());
            Edge.answers("the second time", 0, () -> Scenes.bytes(150), x -> {
                x.clearText();
                return x.clearText();
            });
        });
    }

    private static HexBroadsides duelWith(String orders) {
        HexBroadsides x = Scenes.duel();
        Due.append(x, orders);
        return x;
    }

    private static void carryOut() {
        Edge.section("## Promise 26: carryOut");
        Edge.test("Carries out the orders of the text one after the other.", () -> {
            HexBroadsides x = duelWith("0a;1a;1a;0r;e;0a;w1;1l;");
            Due.is("carryOut", x.carryOut(), 8);
            Due.is("the cell of the ship 0", x.ship(0, 1), 55);
            HexBroadsides y = duelWith("1a;0r;0a;");
            Due.is("the ship 1 makes room", y.carryOut(), 3);
            HexBroadsides z = duelWith("0r;0a;1a;");
            Due.is("the ship 1 does not yet make room", z.carryOut(), 1);
            HexBroadsides wind = duelWith("w3;0a;");
            Due.is("the wind turns first", wind.carryOut(), 1);
            HexBroadsides way = duelWith("w4;0a;0l;");
            way.setWind(4, 2);
            Due.is("the way of the orders before", way.carryOut(), 3);
        });
        Edge.test("An order that is not possible, or whose ship does not exist, ends it", () -> {
            String[] notPossible = {"2a;", "2l;", "7r;", "9a;", "0a;0a;0a;0a;0a;", "0r;0a;", "0r;0r;0r;"};
            int[] done = {0, 0, 0, 0, 4, 1, 2};
            for (int i = 0; i < notPossible.length; i++) {
                HexBroadsides x = duelWith(notPossible[i] + "w5;e;");
                Due.is(notPossible[i], x.carryOut(), done[i]);
                Due.is("the wind behind " + notPossible[i], x.value(2), 0);
                Due.is("the round behind " + notPossible[i], x.value(4), 1);
            }
            Edge.answers("a sunk ship", 0, () -> afterwards(Scenes.hit(18), "1a;e;"), x -> x.carryOut());
            Edge.answers("a sunk ship", 0, () -> afterwards(Scenes.hit(18), "1l;e;"), x -> x.carryOut());
            Edge.answers("a hull of 1", 2, () -> afterwards(Scenes.hit(19), "1a;e;"), x -> x.carryOut());
            Edge.answers("a grappled ship", 0, () -> afterwards(Scenes.tied(60, 60), "0a;e;"), x -> x.carryOut());
            Edge.answers("a grappled ship", 0, () -> afterwards(Scenes.tied(60, 60), "1r;e;"), x -> x.carryOut());
            Edge.answers("no sails", 0, () -> afterwards(Scenes.sails(0), "0a;e;"), x -> x.carryOut());
            Edge.answers("no sails", 0, () -> afterwards(Scenes.sails(0), "0l;e;"), x -> x.carryOut());
            Edge.answers("the ship 8 of eight", 1, () -> afterwards(Scenes.fleet(8), "7a;8a;e;"), x -> x.carryOut());
        });
        Edge.test("those before it stay done.", () -> {
            HexBroadsides x = duelWith("w1;0a;e;9a;w5;");
            Due.is("carryOut", x.carryOut(), 3);
            Due.is("the wind", x.value(2), 1);
            Due.is("the cell", x.ship(0, 1), 45);
            Due.is("the round", x.value(4), 2);
        });
        Edge.test("The text stays as it is.", () -> {
            Edge.answers("behind orders", 6, () -> carriedOut("e;w1;e"), x -> x.clearText());
            HexBroadsides x = carriedOut("e;w1;");
            Due.is("once more", x.carryOut(), 2);
            Due.is("the round", x.value(4), 3);
            Edge.answers("behind an order that ended it", 5, () -> carriedOut("9a;e;"), y -> y.clearText());
            Edge.answers("behind a syntax error", 3, () -> carriedOut("e;x"), y -> y.clearText());
        });
        Edge.test("Undoable (one saved state), if there is no syntax error.", () -> {
            Edge.undoable("several orders", () -> duelWith("0a;e;w3;1l;"), x -> x.carryOut());
            Edge.undoable("no orders", Scenes::duel, x -> x.carryOut());
            Edge.undoable("an order that is not possible", () -> duelWith("9a;"), x -> x.carryOut());
            Edge.undoable("an order that ends it", () -> duelWith("0a;9a;e;"), x -> x.carryOut());
            Edge.answers("75 orders save one state", 0, () -> {
                HexBroadsides x = Scenes.bytes(150);
                x.carryOut();
                return x;
            }, x -> x.undo());
            Edge.refused("undo() behind a syntax error", Edge.STATE, () -> carriedOut("e;e"), x -> x.undo());
        });
    }

    private static HexBroadsides afterwards(HexBroadsides x, String orders) {
        Due.append(x, orders);
        return x;
    }

    private static HexBroadsides carriedOut(String orders) {
        HexBroadsides x = Scenes.text(orders);
        x.carryOut();
        return x;
    }

    private static void carryOutAnswers() {
        Edge.test("Returns the number of orders that were carried out", () -> {
            Edge.answers("none", 0, HexBroadsides::new, x -> x.carryOut());
            Edge.answers("75", 75, () -> Scenes.bytes(150), x -> x.carryOut());
            HexBroadsides x = new HexBroadsides();
            for (int i = 0; i < 150; i++) {
                x.append("w0;".charAt(i % 3));
            }
            Due.is("50", x.carryOut(), 50);
            Edge.answers("an order that ends it does not count", 1, () -> duelWith("0a;9a;e;"), y -> y.carryOut());
        });
        Edge.test("-10 minus the syntax error position if there is a syntax error (then nothing changes).", () -> {
            Edge.refusedText("x", 0);
            Edge.refusedText("e", 1);
            Edge.refusedText("0a;e;w", 6);
            Edge.answers("the position 149", -159, () -> Scenes.bytes(149), x -> x.carryOut());
            Edge.answers("the last byte of 150", -159, () -> {
                HexBroadsides x = Scenes.bytes(149);
                x.append('x');
                return x;
            }, x -> x.carryOut());
            Edge.answers("a text of 150 bytes that ends too early", -160, () -> {
                HexBroadsides x = Scenes.bytes(148);
                x.append('0');
                x.append('a');
                return x;
            }, x -> x.carryOut());
            Edge.Maker late = () -> {
                HexBroadsides x = Edge.calm(Scenes.tied(60, 60), 2);
                Due.append(x, "w3;e;0a;0");
                return x;
            };
            Edge.answers("an error behind good orders", -19, late, x -> x.carryOut());
            Edge.changesNothing("an error behind good orders", late, x -> x.carryOut());
        });
    }
}
