/** Seas with ships with which the tests of the document's sentences begin. */
final class Scenes {
    private Scenes() {
    }

    static HexBroadsides sea(int columns, int rows) {
        HexBroadsides x = new HexBroadsides();
        x.begin(columns, rows);
        return x;
    }

    static HexBroadsides wind(int direction, int strength) {
        HexBroadsides x = new HexBroadsides();
        x.setWind(direction, strength);
        return x;
    }

    /** One ship of the side 0, with 12 guns on each side and a crew of 60. */
    static HexBroadsides lone(int cell, int heading) {
        HexBroadsides x = new HexBroadsides();
        x.addShip(0, cell, heading, 60, 12, 60);
        return x;
    }

    /**
     * Ship 0 of the side 0 at 44, ship 1 of the side 1 at 54, in the direction 1 from it; both
     * with the heading 0, so that ship 0 has the other one in its right arc, is in its left arc,
     * and the shot does not rake.
     */
    static HexBroadsides duel() {
        return duel(60, 12, 60);
    }

    /** The duel in which ship 1 has these values. */
    static HexBroadsides duel(int hull, int guns, int crew) {
        HexBroadsides x = lone(44, 0);
        x.addShip(1, 54, 0, hull, guns, crew);
        return x;
    }

    /** The duel in which ship 1 had this hull, and has lost 18 of it: with 18 it has sunk. */
    static HexBroadsides hit(int hull) {
        HexBroadsides x = duel(hull, 12, 60);
        x.fire(0, true, 1, 0);
        return x;
    }

    /** The duel in which both are grappled, with these crews. */
    static HexBroadsides tied(int crew, int otherCrew) {
        HexBroadsides x = new HexBroadsides();
        x.addShip(0, 44, 0, 60, 12, crew);
        x.addShip(1, 54, 0, 60, 12, otherCrew);
        x.grapple(0, 1);
        return x;
    }

    /**
     * Ship 0 of the side 1 at 54 with the heading 0 and this number of sails; the ships 1 at 44
     * and 2 at 64 of the side 0 have shot the others away, one by each gun.
     */
    static HexBroadsides sails(int left) {
        HexBroadsides x = new HexBroadsides();
        int gone = 20 - left;
        x.addShip(1, 54, 0, 60, 12, 60);
        x.addShip(0, 44, 0, 60, Math.min(12, gone), 60);
        x.addShip(0, 64, 0, 60, gone - Math.min(12, gone), 60);
        if (gone > 0) {
            x.fire(1, true, 0, 1);
        }
        if (gone > 12) {
            x.fire(2, false, 0, 1);
        }
        return x;
    }

    /** Ships of the side 0 on the cells from 0 on. */
    static HexBroadsides fleet(int ships) {
        HexBroadsides x = new HexBroadsides();
        for (int i = 0; i < ships; i++) {
            x.addShip(0, i, 0, 1, 0, 1);
        }
        return x;
    }

    /** A new object with this order text. */
    static HexBroadsides text(String orders) {
        HexBroadsides x = new HexBroadsides();
        Due.append(x, orders);
        return x;
    }

    /** A new object with a text of as many bytes. */
    static HexBroadsides bytes(int length) {
        HexBroadsides x = new HexBroadsides();
        for (int i = 0; i < length; i++) {
            x.append("e;".charAt(i % 2));
        }
        return x;
    }
}
