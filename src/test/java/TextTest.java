/** Promises 24 to 26: the order text, its syntax errors, and carrying it out. */
public final class TextTest {
    private static final Class<?> ARGUMENT = IllegalArgumentException.class;
    private static final Class<?> STATE = IllegalStateException.class;

    public static void main(String[] args) {
        append();
        clearText();
        syntaxErrors();
        carryOut();
        ordersThatAreNotPossible();
        textAndUndo();
        longText();
        Due.finish("TextTest");
    }

    private static void append() {
        HexBroadsides x = new HexBroadsides();
        Due.is("append(0)", x.append(0), 1);
        Due.is("append(127)", x.append(127), 2);
        Due.refused(x, "append(-1)", ARGUMENT, () -> x.append(-1));
        Due.refused(x, "append(128)", ARGUMENT, () -> x.append(128));
        for (int i = 3; i <= 150; i++) {
            Due.is("append " + i, x.append('e'), i);
        }
        Due.refused(x, "append a 151st byte", STATE, () -> x.append('e'));
        Due.refused(x, "append a wrong 151st byte", ARGUMENT, () -> x.append(128));
        Due.refused(x, "undo() behind append", STATE, () -> x.undo());
    }

    private static void clearText() {
        HexBroadsides x = new HexBroadsides();
        Due.is("clearText()", x.clearText(), 0);
        Due.append(x, "e;");
        Due.is("clearText()", x.clearText(), 2);
        Due.is("clearText()", x.clearText(), 0);
        Due.refused(x, "undo() behind clearText()", STATE, () -> x.undo());
        Due.is("carryOut() of nothing", x.carryOut(), 0);
        Due.append(x, "e");
        Due.is("the old bytes are gone", x.carryOut(), -11);
    }

    private static void syntaxErrors() {
        HexBroadsides x = new HexBroadsides();
        x.addShip(0, 44, 0, 12, 12, 30);
        Object[][] due = {{"0", 1}, {"9", 1}, {"w", 1}, {"e", 1}, {"0a", 2}, {"w0", 2}, {"a", 0},
            {";", 0}, {" ", 0}, {"x", 0}, {"W0;", 0}, {"E;", 0}, {"/a;", 0}, {":a;", 0}, {"0A;", 1},
            {"0b;", 1}, {"0e;", 1}, {"00;", 1}, {"0;", 1}, {"0 a;", 1}, {"w6;", 1}, {"w/;", 1},
            {"wa;", 1}, {"w;", 1}, {"e0;", 1}, {"ee;", 1}, {"e;;", 2}, {"0a;;", 3}, {"0aa;", 2},
            {"0a,", 2}, {"w00;", 2}, {"e; ", 2}, {"0a;0l;0r;w5;e;0", 15}, {"0a;0l;0r;w5;e;x", 14},
            {"e;e;0x;", 5}, {"9a;x", 3}, {"e;\u0000", 2}, {"e\u007f", 1}};
        for (Object[] d : due) {
            String orders = (String) d[0];
            x.clearText();
            Due.append(x, orders);
            long before = x.digest();
            Due.is("carryOut of '" + orders + "'", x.carryOut(), -10 - (Integer) d[1]);
            Due.isTrue("'" + orders + "' changes nothing", before == x.digest());
        }
    }

    private static void carryOut() {
        HexBroadsides x = new HexBroadsides();
        x.addShip(0, 44, 0, 12, 12, 30);
        x.addShip(1, 60, 0, 12, 12, 30);
        String before = Due.portrait(x);
        Due.is("carryOut", Due.order(x, "0a;0l;0a;1r;w5;e;1a;0l;"), 8);
        Due.is("cell of 0", x.ship(0, 1), 36);
        Due.is("heading of 0", x.ship(0, 2), 4);
        Due.is("cell of 1", x.ship(1, 1), 70);
        Due.is("heading of 1", x.ship(1, 2), 1);
        Due.is("the wind", x.value(2), 5);
        Due.is("its strength", x.value(3), 2);
        Due.is("the round", x.value(4), 2);
        Due.is("points of 0", x.ship(0, 8), 3);
        Due.is("the text stays", x.clearText(), 23);
        Due.is("one state was saved", x.undo(), 2);
        Due.isTrue("all is undone at once", before.equals(Due.portrait(x)));
        Due.is("all winds", Due.order(x, "w1;w2;w3;w4;w0;"), 5);
        Due.is("the wind", x.value(2), 0);
        Due.is("the same text again", x.carryOut(), 5);
    }

    private static void ordersThatAreNotPossible() {
        HexBroadsides x = new HexBroadsides();
        x.addShip(0, 44, 2, 12, 12, 30);
        Due.is("a tack without way", Due.order(x, "w3;w0;0r;e;"), 2);
        Due.is("the round", x.value(4), 1);
        Due.is("a tack with way", Due.order(x, "0a;0r;e;0l;e;0a;0a;0a;e;"), 7);
        Due.is("those before stay done", x.ship(0, 1), 71);
        Due.is("the round", x.value(4), 3);
        Due.is("no such ship", Due.order(x, "e;1a;e;"), 1);
        Due.is("no such ship 8", Due.order(x, "8a;e;"), 0);
        Due.is("no such ship 9", Due.order(x, "9l;e;"), 0);
        Due.is("off the sea", Due.order(x, "w2;e;0a;e;"), 2);
        x.undo();
        Due.is("undo() of a text with no order done", x.undo(), 2);
        x.begin(10, 8);
        x.addShip(0, 44, 0, 12, 12, 30);
        x.addShip(1, 54, 0, 12, 12, 30);
        x.grapple(0, 1);
        Due.is("a grappled ship", Due.order(x, "0a;"), 0);
        Due.is("a grappled ship", Due.order(x, "1l;"), 0);
        x.cut(0);
        x.fire(0, true, 1, 0);
        Due.is("a sunk ship", Due.order(x, "1a;"), 0);
        Due.is("a sunk ship", Due.order(x, "0a;1r;"), 1);
    }

    private static void textAndUndo() {
        HexBroadsides x = new HexBroadsides();
        Due.append(x, "e;");
        x.carryOut();
        Due.append(x, "e;e;");
        Due.is("undo()", x.undo(), 0);
        Due.is("the text is not undone", x.clearText(), 6);
        Due.is("an empty text saves a state", x.carryOut(), 0);
        Due.is("undo()", x.undo(), 0);
        Due.append(x, "e");
        Due.is("a syntax error", x.carryOut(), -11);
        Due.refused(x, "undo() behind a syntax error", STATE, () -> x.undo());
    }

    private static void longText() {
        HexBroadsides x = new HexBroadsides();
        for (int i = 0; i < 75; i++) {
            Due.append(x, "e;");
        }
        Due.is("75 rounds", x.carryOut(), 75);
        Due.is("the round", x.value(4), 76);
        x.clearText();
        for (int i = 0; i < 149; i++) {
            x.append("w0;".charAt(i % 3));
        }
        Due.is("the last semicolon is missing", x.carryOut(), -159);
        x.append(';');
        Due.is("50 winds", x.carryOut(), 50);
    }
}
