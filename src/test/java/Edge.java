/**
 * What the tests of the document's sentences share. Each of them quotes its sentence, and stands
 * at the place of that sentence in the document.
 */
final class Edge {
    static final Class<?> BOUNDS = IndexOutOfBoundsException.class;
    static final Class<?> ARGUMENT = IllegalArgumentException.class;
    static final Class<?> STATE = IllegalStateException.class;

    interface Maker {
        HexBroadsides make();
    }

    interface Question {
        Object ask(HexBroadsides x);
    }

    private static final Question[] PROBES = {Edge::looks, Edge::pastStates, Edge::orders,
        x -> deeds(x, true), x -> deeds(x, false)};

    private static String section = "";

    private Edge() {
    }

    /** The sentences that follow stand under this heading of the document. */
    static void section(String heading) {
        section = heading;
        Due.place = heading;
        Page.heading(heading);
    }

    /** A sentence of the document, and the test that fails if it is broken. */
    static void test(String sentence, Runnable body) {
        Due.place = section + " -- " + sentence;
        Page.quote(sentence);
        int before = Due.answers();
        try {
            body.run();
        } catch (RuntimeException e) {
            Due.note(false, "the test was ended by " + e);
        }
        Due.isTrue("the test compares something", Due.answers() > before);
        Due.place = section;
    }

    /** A sentence that names no boundary and asks for nothing, with the reason. */
    static void plain(String sentence, String reason) {
        Due.place = section + " -- " + sentence;
        Page.quote(sentence);
        Due.isTrue("a reason is given", !reason.isEmpty());
        Due.place = section;
    }

    /** The call throws exactly this exception, and calls of all kinds show that nothing has changed. */
    static void refused(String what, Class<?> kind, Maker maker, Question call) {
        alike(what + " changed something", () -> {
            HexBroadsides x = maker.make();
            Due.same(what, Due.answerOf(() -> call.ask(x)), "throws." + kind.getSimpleName());
            return x;
        }, maker);
    }

    /** The numbers next to a range, and the ones farthest off. */
    static int[] outside(int least, int greatest) {
        return new int[] {least - 1, greatest + 1, Integer.MIN_VALUE, Integer.MAX_VALUE};
    }

    /** The text has its syntax error there: nothing changes, and no state is saved. */
    static void refusedText(String orders, int position) {
        Maker written = () -> Scenes.text(orders);
        answers("carryOut of '" + orders + "'", -10 - position, written, x -> x.carryOut());
        changesNothing("carryOut of '" + orders + "'", written, x -> x.carryOut());
    }

    /** The call answers this. */
    static void answers(String what, Object due, Maker maker, Question call) {
        HexBroadsides x = maker.make();
        Due.same(what, Due.answerOf(() -> call.ask(x)), String.valueOf(due));
    }

    /** The call is no undoable one: it changes nothing and saves nothing. */
    static void changesNothing(String what, Maker maker, Question call) {
        alike(what + " changed something", () -> {
            HexBroadsides x = maker.make();
            call.ask(x);
            return x;
        }, maker);
    }

    /** The call saves one state, whatever it does, and undo() restores all of it. */
    static void undoable(String what, Maker maker, Question call) {
        alike(what + " was not undone whole", () -> {
            HexBroadsides x = maker.make();
            call.ask(x);
            x.undo();
            return x;
        }, () -> {
            HexBroadsides x = calm(maker.make(), 1);
            x.undo();
            return x;
        });
        HexBroadsides x = calm(maker.make(), 4);
        String before = Due.portrait(x);
        Due.is(what + " was refused", Due.answerOf(() -> call.ask(x)).indexOf("throws."), -1);
        Due.is("undo() of " + what + " with 4 saved states", x.undo(), 3);
        Due.same(what + " undone", Due.portrait(x), before);
        Due.is("undo() before " + what, x.undo(), 2);
    }

    /** Sets the wind that blows already, some times: each saves a state and changes nothing. */
    static HexBroadsides calm(HexBroadsides x, int times) {
        for (int i = 0; i < times; i++) {
            x.setWind(x.value(2), x.value(3));
        }
        return x;
    }

    /** Both objects answer alike whatever is called then; each kind of calls has new objects. */
    static void alike(String what, Maker one, Maker other) {
        for (Question probe : PROBES) {
            Due.same(what, (String) probe.ask(one.make()), (String) probe.ask(other.make()));
        }
    }

    /** Both objects look alike, and so they do when the round has ended. */
    static void sameNow(String what, HexBroadsides one, HexBroadsides other) {
        Due.same(what, looks(one), looks(other));
        Due.is(what + ": endRound()", one.endRound(), other.endRound());
        Due.is(what + ": digest()", one.digest(), other.digest());
    }

    private static String looks(HexBroadsides x) {
        StringBuilder all = new StringBuilder(Due.portrait(x));
        all.append(x.digest()).append(' ').append(x.balance(0)).append(' ').append(x.balance(1));
        int ships = x.value(5);
        for (int i = 0; i < ships; i++) {
            all.append(' ').append(x.bestShot(i)).append(' ').append(x.bestWind(i));
        }
        return all.toString();
    }

    private static String pastStates(HexBroadsides x) {
        StringBuilder all = new StringBuilder();
        for (int i = 0; i < 5; i++) {
            all.append(Due.answerOf(() -> x.undo())).append(' ').append(x.digest()).append(' ');
        }
        return all.toString();
    }

    private static String orders(HexBroadsides x) {
        return x.carryOut() + " " + x.digest() + " " + x.clearText();
    }

    private static String deeds(HexBroadsides x, boolean rightFirst) {
        StringBuilder all = new StringBuilder();
        int ships = x.value(5);
        for (int i = 0; i < ships; i++) {
            int ship = i;
            all.append(Due.answerOf(() -> x.board(ship))).append(' ');
            for (int j = 0; j < ships; j++) {
                int target = j;
                all.append(Due.answerOf(() -> x.fire(ship, rightFirst, target, 1))).append(' ');
                all.append(Due.answerOf(() -> x.fire(ship, !rightFirst, target, 2))).append(' ');
            }
            all.append(Due.answerOf(() -> x.cut(ship))).append(' ');
            all.append(Due.answerOf(() -> x.turn(ship, rightFirst))).append(' ');
            all.append(Due.answerOf(() -> x.turn(ship, !rightFirst))).append(' ');
            all.append(Due.answerOf(() -> x.ahead(ship))).append(' ').append(x.digest()).append(' ');
        }
        all.append(x.endRound()).append(' ').append(x.digest());
        return all.toString();
    }
}
