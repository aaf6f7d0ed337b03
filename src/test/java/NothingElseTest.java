/**
 * Each call changes of the numbers and the ships what the document says of it, and nothing else:
 * what is told of a ship that is sunk stays as well. Every change is written out here.
 */
public final class NothingElseTest {
    /** In a list of changes: the first number of one of value(), not of ship(). */
    private static final int VALUE = -1;
    private static final int SHIPS = 5;
    private static final int TOLD_OF_SHIP = 15;
    private static final int TOLD = 10;

    private static final Edge.Question NOTHING_BEFORE = x -> 0;
    private static final Edge.Question TIED = x -> x.grapple(2, 3);

    public static void main(String[] args) {
        callsOfTheSea();
        moves();
        shots();
        boardings();
        orderTexts();
        questions();
        Due.finish("NothingElseTest");
    }

    /**
     * Ship 0 is sunk; it has boarded in this round, both its sides of guns wait for two rounds, and
     * points are left over. Ship 1 has boarded and waits too. The ships 2 and 3 are enemies side by
     * side, and ship 4 has lost its sails.
     */
    private static HexBroadsides scene() {
        HexBroadsides x = new HexBroadsides();
        x.addShip(1, 44, 0, 10, 12, 40);
        x.addShip(0, 54, 0, 60, 12, 60);
        x.addShip(0, 34, 0, 50, 11, 30);
        x.addShip(1, 35, 1, 40, 10, 21);
        x.addShip(1, 64, 2, 30, 9, 50);
        x.fire(1, true, 4, 1);
        x.endRound();
        x.fire(1, true, 4, 1);
        x.grapple(0, 1);
        x.board(0);
        x.board(1);
        x.cut(0);
        x.fire(2, true, 0, 1);
        x.fire(0, true, 1, 1);
        x.fire(0, false, 2, 2);
        x.ahead(0);
        x.turn(0, true);
        x.fire(1, false, 0, 0);
        return x;
    }

    private static int[][] told(HexBroadsides x) {
        int[][] all = new int[SHIPS + 1][];
        for (int ship = 0; ship < SHIPS; ship++) {
            all[ship] = new int[TOLD_OF_SHIP];
            for (int what = 0; what < TOLD_OF_SHIP; what++) {
                all[ship][what] = x.ship(ship, what);
            }
        }
        all[SHIPS] = new int[TOLD];
        for (int what = 0; what < TOLD; what++) {
            all[SHIPS][what] = x.value(what);
        }
        return all;
    }

    /** Behind the first call, the second one answers this, and makes these changes alone. */
    private static void changes(String what, Edge.Question first, Edge.Question call, Object answer, int[]... due) {
        HexBroadsides x = scene();
        first.ask(x);
        int[][] want = told(x);
        for (int[] change : due) {
            int[] row = want[change[0] == VALUE ? SHIPS : change[0]];
            Due.isTrue(what + " is to change something", row[change[1]] != change[2]);
            row[change[1]] = change[2];
        }
        Due.same(what, Due.answerOf(() -> call.ask(x)), String.valueOf(answer));
        int[][] got = told(x);
        for (int row = 0; row <= SHIPS; row++) {
            String of = row == SHIPS ? "value(" : "ship(" + row + ", ";
            for (int i = 0; i < got[row].length; i++) {
                Due.is(of + i + ") behind " + what, got[row][i], want[row][i]);
            }
        }
    }

    private static int[] to(int ship, int what, int value) {
        return new int[] {ship, what, value};
    }

    private static void callsOfTheSea() {
        changes("setRock", NOTHING_BEFORE, x -> x.setRock(7, true), 0, to(VALUE, 8, 1), to(VALUE, 9, 7));
        changes("setWind", NOTHING_BEFORE, x -> x.setWind(0, 3), 0, to(VALUE, 3, 3),
                to(0, 12, 5), to(1, 12, 3), to(2, 12, 6), to(3, 12, 9));
        changes("addShip", NOTHING_BEFORE, x -> x.addShip(1, 0, 0, 60, 12, 60), 5, to(VALUE, 5, 6), to(VALUE, 7, 3));
        changes("addShip where ship 0 sank", NOTHING_BEFORE, x -> x.addShip(0, 45, 0, 60, 12, 60), 5,
                to(VALUE, 5, 6), to(VALUE, 6, 3));
        changes("begin and undo", NOTHING_BEFORE, x -> x.begin(12, 12) + x.undo(), SHIPS + 3);
        changes("undo", NOTHING_BEFORE, x -> x.undo(), 3, to(0, 1, 45), to(0, 3, 10), to(0, 6, 12), to(1, 9, 0),
                to(VALUE, 7, 3));
    }

    private static void moves() {
        changes("ahead", NOTHING_BEFORE, x -> x.ahead(1), 55, to(1, 1, 55), to(1, 8, 3));
        changes("turn", NOTHING_BEFORE, x -> x.turn(2, true), 1, to(2, 2, 1), to(2, 8, 3), to(2, 12, 6), to(2, 13, 1));
        changes("endRound", NOTHING_BEFORE, x -> x.endRound(), 1, to(VALUE, 4, 3),
                to(0, 8, 3), to(0, 9, 1), to(0, 10, 1), to(0, 14, 0),
                to(1, 8, 2), to(1, 9, 0), to(1, 10, 0), to(1, 14, 0),
                to(2, 10, 0), to(4, 1, 65), to(4, 8, 0));
        changes("the second endRound", x -> x.endRound(), x -> x.endRound(), 1, to(VALUE, 4, 4),
                to(0, 9, 0), to(0, 10, 0), to(4, 1, 66));
    }

    private static void shots() {
        changes("a shot at the hull", NOTHING_BEFORE, x -> x.fire(3, true, 2, 0), 30, to(2, 3, 20), to(3, 10, 1));
        changes("a shot at the sails", NOTHING_BEFORE, x -> x.fire(3, true, 2, 1), 20,
                to(2, 4, 0), to(2, 12, 0), to(3, 10, 1));
        changes("a shot at the crew", NOTHING_BEFORE, x -> x.fire(3, true, 2, 2), 15, to(2, 7, 1), to(3, 10, 1));
        changes("a shot that sinks a grappled ship",
                x -> x.fire(3, true, 2, 0) + x.endRound() + x.grapple(3, 2),
                x -> x.fire(3, true, 2, 0), 20,
                to(2, 1, -1), to(2, 3, 0), to(2, 11, -1), to(3, 10, 1), to(3, 11, -1), to(VALUE, 6, 1));
    }

    private static void boardings() {
        changes("grapple", NOTHING_BEFORE, TIED, 2, to(2, 11, 3), to(3, 11, 2));
        changes("cut", TIED, x -> x.cut(3), 2, to(2, 11, -1), to(3, 11, -1));
        changes("board", TIED, x -> x.board(2), 0, to(2, 7, 10), to(2, 14, 1), to(3, 7, 15));
        changes("board by the other one", TIED, x -> x.board(3), 0, to(2, 7, 9), to(3, 7, 17), to(3, 14, 1));
        changes("board back", x -> x.grapple(2, 3) + x.board(2), x -> x.board(3), 0,
                to(2, 7, 5), to(3, 7, 12), to(3, 14, 1));
        changes("taking a ship", x -> x.fire(3, true, 2, 2) + x.grapple(2, 3), x -> x.board(3), 1,
                to(2, 0, 1), to(2, 7, 5), to(2, 11, -1), to(3, 7, 15), to(3, 11, -1), to(3, 14, 1),
                to(VALUE, 6, 1), to(VALUE, 7, 3));
    }

    private static void orderTexts() {
        changes("append", NOTHING_BEFORE, x -> x.append('e'), 1);
        changes("clearText", x -> x.append('e'), x -> x.clearText(), 1);
        changes("carryOut of no orders", NOTHING_BEFORE, x -> x.carryOut(), 0);
        changes("carryOut of a syntax error", x -> x.append('e'), x -> x.carryOut(), -11);
        changes("carryOut of orders", NOTHING_BEFORE, x -> Due.order(x, "3a;2r;0a;1a;"), 2, to(3, 1, 45), to(3, 8, 5),
                to(2, 2, 1), to(2, 8, 3), to(2, 12, 6), to(2, 13, 1));
        changes("carryOut of a wind", NOTHING_BEFORE, x -> Due.order(x, "w1;"), 1, to(VALUE, 2, 1),
                to(0, 12, 2), to(0, 13, 0), to(1, 12, 3), to(1, 13, 1), to(2, 12, 6), to(2, 13, 1),
                to(3, 12, 4), to(3, 13, 0), to(4, 13, 1));
    }

    private static void questions() {
        changes("force", NOTHING_BEFORE, x -> x.force(3, true, 2), 120);
        changes("reach of a sunk ship", NOTHING_BEFORE, x -> x.reach(0), 0);
        changes("reach", NOTHING_BEFORE, x -> x.reach(4), 1);
        changes("pointsAt", NOTHING_BEFORE, x -> x.pointsAt(3, 45), 5);
        changes("bestShot", NOTHING_BEFORE, x -> x.bestShot(3), 5);
        changes("bestWind", NOTHING_BEFORE, x -> x.bestWind(1), 1);
        changes("balance", NOTHING_BEFORE, x -> x.balance(1), 141.0 / 306.0);
        changes("at", NOTHING_BEFORE, x -> x.at(45), -1);
        changes("digest", NOTHING_BEFORE, x -> x.digest() - x.digest(), 0L);
    }
}
