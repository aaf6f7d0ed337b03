/** Promises 27 and 28: undo and digest. */
public final class StateTest {
    private static final Class<?> STATE = IllegalStateException.class;

    public static void main(String[] args) {
        undoKeepsFour();
        everyUndoableCallSaves();
        questionsSaveNothing();
        digest();
        digestTellsTheText();
        Due.finish("StateTest");
    }

    private static void undoKeepsFour() {
        HexBroadsides x = withRocks(8);
        for (int i = 3; i >= 0; i--) {
            Due.is("undo()", x.undo(), i);
            Due.same("the state before call " + (i + 4), Due.portrait(x), Due.portrait(withRocks(i + 4)));
        }
        Due.refused(x, "a fifth undo()", STATE, () -> x.undo());
        Due.is("the rocks that stay", x.value(8), 4);
        x.setRock(40, true);
        x.undo();
        x.setRock(41, true);
        x.setRock(42, true);
        Due.is("undo() between calls", x.undo(), 1);
        Due.is("the last rock", x.value(9), 41);
        undoOfBegin();
        undoBringsBackEveryPart();
    }

    private static HexBroadsides withRocks(int rocks) {
        HexBroadsides x = new HexBroadsides();
        for (int i = 0; i < rocks; i++) {
            x.setRock(i, true);
        }
        return x;
    }

    /** The slots of the ships are used by others before the state comes back. */
    private static void undoBringsBackEveryPart() {
        HexBroadsides x = new HexBroadsides();
        x.addShip(0, 44, 0, 60, 12, 20);
        x.addShip(1, 63, 3, 60, 11, 60);
        x.addShip(1, 34, 3, 60, 6, 6);
        x.fire(1, true, 0, 2);
        x.fire(0, false, 2, 1);
        x.grapple(0, 2);
        x.board(2);
        String before = Due.portrait(x);
        x.begin(4, 4);
        x.addShip(1, 3, 5, 1, 1, 9);
        x.addShip(1, 7, 5, 1, 1, 3);
        x.undo();
        x.undo();
        x.undo();
        Due.isTrue("every part of the ships is back", before.equals(Due.portrait(x)));
        x.fire(0, true, 1, 1);
        Due.is("the first crew is back", x.ship(0, 10), 2);
        HexBroadsides y = new HexBroadsides();
        y.addShip(0, 44, 2, 60, 12, 20);
        y.ahead(0);
        y.begin(4, 4);
        y.addShip(0, 0, 3, 60, 12, 20);
        y.undo();
        y.undo();
        Due.is("the way is back", y.turn(0, true), 3);
    }

    private static void undoOfBegin() {
        HexBroadsides x = new HexBroadsides();
        x.begin(12, 12);
        x.setRock(143, true);
        x.addShip(0, 142, 1, 9, 3, 8);
        String before = Due.portrait(x);
        x.begin(4, 4);
        x.addShip(1, 15, 2, 60, 12, 60);
        x.addShip(1, 14, 2, 60, 12, 60);
        x.undo();
        x.undo();
        x.undo();
        Due.isTrue("the greater sea is back", before.equals(Due.portrait(x)));
    }

    /** Two ships at the distance 1, ship 0 with its right guns at the left ones of ship 1. */
    private static HexBroadsides duel() {
        HexBroadsides x = new HexBroadsides();
        x.addShip(0, 44, 0, 60, 12, 60);
        x.addShip(1, 54, 0, 60, 12, 60);
        x.grapple(0, 1);
        for (int i = 0; i < 3; i++) {
            x.undo();
        }
        x.addShip(0, 44, 0, 60, 12, 60);
        x.addShip(1, 54, 0, 60, 12, 60);
        return x;
    }

    private static void saves(String what, Edge.Question call) {
        HexBroadsides x = duel();
        String before = Due.portrait(x);
        call.ask(x);
        Due.is("undo() of " + what, x.undo(), 2);
        Due.isTrue(what + " is undone whole", before.equals(Due.portrait(x)));
    }

    private static void everyUndoableCallSaves() {
        saves("begin", x -> x.begin(4, 4));
        saves("setRock", x -> x.setRock(0, true));
        saves("setRock of the same", x -> x.setRock(0, false));
        saves("setWind", x -> x.setWind(3, 3));
        saves("setWind of the same", x -> x.setWind(0, 2));
        saves("addShip", x -> x.addShip(0, 0, 0, 1, 1, 1));
        saves("ahead", x -> x.ahead(0));
        saves("turn", x -> x.turn(0, true));
        saves("endRound", x -> x.endRound());
        saves("fire at the hull", x -> x.fire(0, true, 1, 0));
        saves("fire at the sails", x -> x.fire(0, true, 1, 1));
        saves("fire at the crew", x -> x.fire(0, true, 1, 2));
        saves("grapple", x -> x.grapple(0, 1));
        saves("carryOut of nothing", x -> x.carryOut());
        saves("carryOut", x -> Due.order(x, "0a;e;w3;"));
        HexBroadsides y = new HexBroadsides();
        y.addShip(0, 44, 0, 60, 12, 60);
        y.addShip(1, 54, 0, 60, 12, 60);
        y.grapple(0, 1);
        y.undo();
        y.grapple(0, 1);
        String before = Due.portrait(y);
        y.cut(0);
        Due.is("undo() of cut", y.undo(), 3);
        Due.isTrue("cut is undone whole", before.equals(Due.portrait(y)));
        y.board(0);
        Due.is("undo() of board", y.undo(), 3);
        Due.isTrue("board is undone whole", before.equals(Due.portrait(y)));
    }

    private static void questionsSaveNothing() {
        HexBroadsides x = duel();
        x.value(0);
        x.ship(0, 0);
        x.at(0);
        x.distance(0, 1);
        x.bearing(0, 1);
        x.force(0, true, 1);
        x.reach(0);
        x.pointsAt(0, 0);
        x.bestShot(0);
        x.bestWind(0);
        x.balance(0);
        x.append('e');
        x.clearText();
        x.digest();
        Due.is("undo() behind questions", x.undo(), 1);
        Due.is("ships then", x.value(5), 1);
    }

    private static long hashOf(HexBroadsides x, int textLength, int saved) {
        long h = 31 * 3347L + textLength;
        for (int what = 0; what <= 9; what++) {
            h = 31 * h + x.value(what);
        }
        int ships = x.value(5);
        for (int i = 0; i < ships; i++) {
            for (int what = 0; what <= 14; what++) {
                h = 31 * h + x.ship(i, what);
            }
            h = 31 * h + x.reach(i);
        }
        int cells = x.value(0) * x.value(1);
        for (int cell = 0; cell < cells; cell++) {
            h = 31 * h + x.at(cell);
        }
        return 31 * h + saved;
    }

    private static void digest() {
        HexBroadsides x = new HexBroadsides();
        Due.is("digest of a new object", x.digest(), hashOf(x, 0, 0));
        x.addShip(0, 44, 0, 60, 12, 60);
        Due.is("digest with a ship", x.digest(), hashOf(x, 0, 1));
        HexBroadsides y = sinking();
        Due.is("digest with two ships", y.digest(), hashOf(y, 0, 3));
        y.fire(0, true, 1, 0);
        y.endRound();
        Due.is("digest with four saved states", y.digest(), hashOf(y, 0, 4));
        HexBroadsides z = sinking();
        z.fire(0, true, 1, 0);
        z.endRound();
        z.undo();
        Due.is("digest behind undo()", z.digest(), hashOf(z, 0, 3));
        z.begin(4, 4);
        Due.is("digest of the least sea", z.digest(), hashOf(z, 0, 4));
        z.begin(12, 12);
        Due.is("digest of the greatest sea", z.digest(), hashOf(z, 0, 4));
    }

    /** The next shot of ship 0 to the right sinks ship 1. */
    private static HexBroadsides sinking() {
        HexBroadsides x = new HexBroadsides();
        x.addShip(0, 44, 0, 60, 12, 60);
        x.addShip(1, 54, 0, 12, 12, 60);
        x.setRock(3, true);
        return x;
    }

    private static void digestTellsTheText() {
        HexBroadsides x = new HexBroadsides();
        Due.append(x, "e;e;e;");
        Due.is("digest with a text", x.digest(), hashOf(x, 6, 0));
        x.carryOut();
        Due.is("digest with a text carried out", x.digest(), hashOf(x, 6, 1));
        x.undo();
        Due.is("digest with the text behind undo()", x.digest(), hashOf(x, 6, 0));
    }
}
