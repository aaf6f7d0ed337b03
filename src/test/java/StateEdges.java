/** Promises 27 and 28 of the document, and what it does not promise. */
final class StateEdges {
    private StateEdges() {
    }

    static void run() {
        undo();
        digest();
        notPromised();
    }

    private static void undo() {
        Edge.section("## Promise 27: undo");
        Edge.test("Restores the most recently saved state and removes it from the saved states.", () -> {
            HexBroadsides x = new HexBroadsides();
            String[] portraits = new String[4];
            for (int i = 0; i < 2; i++) {
                portraits[i] = Due.portrait(x);
                x.addShip(i, 44 + 10 * i, 0, 60, 12, 60);
            }
            x.undo();
            Due.same("the last call undone", Due.portrait(x), portraits[1]);
            x.undo();
            Due.same("and the one before it", Due.portrait(x), portraits[0]);
            HexBroadsides y = Scenes.duel();
            y.setWind(1, 1);
            y.undo();
            y.setWind(2, 2);
            y.undo();
            Due.is("a state that was removed does not come back", y.value(2), 0);
            y.undo();
            Due.is("but the one before it", y.value(5), 1);
            Edge.answers("undo() itself saves nothing", "throws.IllegalStateException", () -> {
                HexBroadsides z = Scenes.lone(44, 0);
                z.undo();
                return z;
            }, z -> z.undo());
        });
        Edge.test("Returns the number of saved states that remain.", () -> {
            HexBroadsides x = Edge.calm(new HexBroadsides(), 1);
            Due.is("one call", x.undo(), 0);
            HexBroadsides y = Edge.calm(new HexBroadsides(), 9);
            for (int left = 3; left >= 0; left--) {
                Due.is("nine calls", y.undo(), left);
            }
            HexBroadsides z = Edge.calm(new HexBroadsides(), 4);
            z.undo();
            z.undo();
            z.setWind(1, 1);
            Due.is("calls between", z.undo(), 2);
        });
        Edge.test("Throws `IllegalStateException` if there is no saved state", () -> {
            Edge.refused("undo() of a new object", Edge.STATE, HexBroadsides::new, x -> x.undo());
            Edge.refused("undo() behind append alone", Edge.STATE, () -> Scenes.text("e;"), x -> x.undo());
            Edge.refused("a fifth undo()", Edge.STATE, () -> {
                HexBroadsides x = Scenes.fleet(8);
                for (int i = 0; i < 4; i++) {
                    x.undo();
                }
                return x;
            }, x -> x.undo());
        });
    }

    private static long hashOf(HexBroadsides x, int textLength, int saved) {
        long h = 3347;
        h = 31 * h + textLength;
        for (int what = 0; what <= 9; what++) {
            h = 31 * h + x.value(what);
        }
        int ships = x.value(5);
        for (int ship = 0; ship < ships; ship++) {
            for (int what = 0; what <= 14; what++) {
                h = 31 * h + x.ship(ship, what);
            }
            h = 31 * h + x.reach(ship);
        }
        int cells = x.value(0) * x.value(1);
        for (int cell = 0; cell < cells; cell++) {
            h = 31 * h + x.at(cell);
        }
        return 31 * h + saved;
    }

    private static void digest() {
        Edge.section("## Promise 28: digest");
        Edge.test("Returns a hash of the state.", () -> Edge.changesNothing("digest", Scenes::duel, x -> x.digest()));
        Edge.test("Start with h = 3347 and, for each of the following values v, set h = 31 * h + v", () -> {
            HexBroadsides x = Scenes.sea(4, 4);
            long h = 3347;
            int[] values = {0, 4, 4, 0, 2, 1, 0, 0, 0, 0, -1};
            for (int v : values) {
                h = 31 * h + v;
            }
            for (int cell = 0; cell < 16; cell++) {
                h = 31 * h - 1;
            }
            Due.is("the least sea", x.digest(), 31 * h + 1);
        });
        Edge.test("the length of the text", () -> {
            for (int length = 0; length <= 150; length += 50) {
                HexBroadsides x = Scenes.bytes(length);
                Due.is(length + " bytes", x.digest(), hashOf(x, length, 0));
            }
            Due.is("only its length", Scenes.text("ab").digest(), Scenes.text("cd").digest());
        });
        Edge.test("value() for 0 to 9", () -> {
            HexBroadsides x = Scenes.wind(5, 0);
            x.setRock(79, true);
            x.endRound();
            Due.is("digest", x.digest(), hashOf(x, 0, 3));
        });
        Edge.test("for each ship the values of ship() for what = 0 to 14 and reach()", () -> {
            HexBroadsides x = Scenes.fleet(8);
            Due.is("eight ships", x.digest(), hashOf(x, 0, 4));
            HexBroadsides y = Scenes.tied(60, 60);
            y.board(0);
            Due.is("grappled and boarded", y.digest(), hashOf(y, 0, 4));
            HexBroadsides z = Scenes.hit(18);
            Due.is("one is sunk", z.digest(), hashOf(z, 0, 3));
        });
        Edge.test("the value of at() for each cell", () -> {
            HexBroadsides x = Scenes.sea(12, 12);
            x.setRock(143, true);
            x.setRock(0, true);
            Due.is("the greatest sea", x.digest(), hashOf(x, 0, 3));
        });
        Edge.test("the number of saved states.", () -> {
            for (int calls = 0; calls <= 5; calls++) {
                HexBroadsides x = Edge.calm(new HexBroadsides(), calls);
                Due.is(calls + " calls", x.digest(), hashOf(x, 0, Math.min(4, calls)));
            }
        });
        Edge.test("Returns the hash, with the overflow of long arithmetic ignored.", () -> {
            HexBroadsides x = Scenes.fleet(8);
            java.math.BigInteger h = java.math.BigInteger.valueOf(3347);
            for (String v : ("0 " + Due.portrait(x) + "4").trim().split(" ")) {
                h = h.multiply(java.math.BigInteger.valueOf(31)).add(new java.math.BigInteger(v));
            }
            Due.is("the lowest 64 bits", x.digest(), h.longValue());
            Due.isTrue("more bits than that", h.bitLength() > 64);
        });
    }

    private static void notPromised() {
        Edge.section("## Not promised");
        Edge.plain("How the state is held inside the object is free, as are the speed of each call, the text of toString"
                + " and the behaviour of equals and hashCode.", "nothing is asked for");
        Edge.plain("Use of one object from several threads at once is not promised to be safe.", "nothing is asked for");
        Edge.plain("Nothing is promised beyond the answers and state changes described above, and nothing about an object"
                + " after its 512th call.", "nothing is asked for");
    }
}
