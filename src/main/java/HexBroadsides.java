import java.util.Arrays;

/**
 * A sailing ship game on a sea of hexagons. The face below does nothing but test the
 * arguments, throw what the document names, save the state and hand the work on; the rules
 * themselves stand in the classes inside.
 */
public final class HexBroadsides {
    public static final int NONE = -1;

    private static final int DIRECTIONS = 6;
    private static final int OPPOSITE = 3;
    private static final int MOST_SHIPS = 8;
    private static final int MOST_CELLS = 144;
    private static final int ROCK = -2;
    private static final int ON_LINE = 10;
    private static final int LEFT = 0;
    private static final int RIGHT = 1;
    private static final int AIM_HULL = 0;
    private static final int AIM_SAILS = 1;
    private static final int AIM_CREW = 2;
    private static final int SYNTAX_ERROR = -10;

    private final Sea sea;
    private final History history;
    private final Helm helm;
    private final Gunnery gunnery;
    private final Crews crews;
    private final Chart chart;
    private final OrderText text;

    public HexBroadsides() {
        Sea present = new Sea();
        sea = present;
        history = new History();
        helm = new Helm(present);
        gunnery = new Gunnery(present);
        crews = new Crews(present);
        chart = new Chart(present);
        text = new OrderText();
    }

    // ---- sea

    public int begin(int columns, int rows) throws IllegalArgumentException {
        if (columns < 4 || columns > 12 || rows < 4 || rows > 12) {
            throw new IllegalArgumentException("columns or rows out of range");
        }
        int before = sea.shipCount;
        history.save(sea);
        sea.makeAnew(columns, rows);
        return before;
    }

    public int setRock(int cell, boolean rock) throws IndexOutOfBoundsException, IllegalStateException {
        needCell(cell);
        if (sea.shipOn(cell) != NONE) {
            throw new IllegalStateException("a ship is on the cell");
        }
        boolean before = sea.isRock(cell);
        history.save(sea);
        sea.markRock(cell, rock);
        return before ? 1 : 0;
    }

    public int setWind(int direction, int strength) throws IllegalArgumentException {
        if (!isDirection(direction) || strength < 0 || strength > 3) {
            throw new IllegalArgumentException("direction or strength out of range");
        }
        int before = sea.windDirection;
        history.save(sea);
        sea.windDirection = direction;
        sea.windStrength = strength;
        return before;
    }

    public int addShip(int side, int cell, int heading, int hull, int guns, int crew)
            throws IndexOutOfBoundsException, IllegalArgumentException, IllegalStateException {
        needCell(cell);
        if (!isSide(side) || !isDirection(heading)) {
            throw new IllegalArgumentException("side or heading out of range");
        }
        if (hull < 1 || hull > 60 || guns < 0 || guns > 12 || crew < 1 || crew > 60) {
            throw new IllegalArgumentException("hull, guns or crew out of range");
        }
        if (sea.shipCount >= MOST_SHIPS || !sea.isFree(cell)) {
            throw new IllegalStateException("no room for the ship");
        }
        history.save(sea);
        int number = sea.shipCount;
        Ship added = sea.ships[number];
        added.launch(side, cell, heading, hull, guns, crew);
        sea.shipCount = number + 1;
        helm.readyForRound(added);
        return number;
    }

    public int value(int what) throws IllegalArgumentException {
        if (what < 0 || what > 9) {
            throw new IllegalArgumentException("no such value");
        }
        return sea.numberAbout(what);
    }

    public int ship(int ship, int what) throws IndexOutOfBoundsException, IllegalArgumentException {
        needShip(ship);
        if (what < 0 || what > 14) {
            throw new IllegalArgumentException("no such value of a ship");
        }
        return sea.numberAboutShip(sea.ships[ship], what);
    }

    public int at(int cell) throws IndexOutOfBoundsException {
        needCell(cell);
        return sea.occupant(cell);
    }

    public int distance(int from, int to) throws IndexOutOfBoundsException {
        needCell(from);
        needCell(to);
        return sea.movesBetween(from, to);
    }

    public int bearing(int from, int to) throws IndexOutOfBoundsException {
        needCell(from);
        needCell(to);
        return sea.sight(from, to);
    }

    // ---- moves

    public int ahead(int ship) throws IndexOutOfBoundsException, IllegalStateException {
        needShip(ship);
        Ship mover = sea.ships[ship];
        if (!helm.canMove(mover)) {
            throw new IllegalStateException("the ship cannot move ahead");
        }
        history.save(sea);
        helm.move(mover);
        return mover.cell;
    }

    public int turn(int ship, boolean right) throws IndexOutOfBoundsException, IllegalStateException {
        needShip(ship);
        Ship turner = sea.ships[ship];
        if (!helm.canSwing(turner, right)) {
            throw new IllegalStateException("the ship cannot turn so");
        }
        history.save(sea);
        turner.swing(right);
        return turner.heading;
    }

    public int endRound() {
        history.save(sea);
        return helm.finishRound();
    }

    // ---- fights

    public int force(int ship, boolean right, int target)
            throws IndexOutOfBoundsException, IllegalArgumentException {
        needTwoShips(ship, target);
        return gunnery.forceOn(sea.ships[ship], right, sea.ships[target]);
    }

    public int fire(int ship, boolean right, int target, int aim)
            throws IndexOutOfBoundsException, IllegalArgumentException, IllegalStateException {
        needTwoShips(ship, target);
        if (aim < AIM_HULL || aim > AIM_CREW) {
            throw new IllegalArgumentException("no such aim");
        }
        Ship firing = sea.ships[ship];
        Ship hit = sea.ships[target];
        if (!gunnery.canShoot(firing, right, hit, aim)) {
            throw new IllegalStateException("the ship cannot fire so");
        }
        history.save(sea);
        return gunnery.shoot(firing, right, hit, aim);
    }

    public int grapple(int ship, int target)
            throws IndexOutOfBoundsException, IllegalArgumentException, IllegalStateException {
        needTwoShips(ship, target);
        if (!crews.canTie(sea.ships[ship], sea.ships[target])) {
            throw new IllegalStateException("the ships cannot be grappled");
        }
        history.save(sea);
        sea.ships[ship].partner = target;
        sea.ships[target].partner = ship;
        return sea.tiedShips();
    }

    public int cut(int ship) throws IndexOutOfBoundsException, IllegalStateException {
        needShip(ship);
        int partner = sea.ships[ship].partner;
        if (partner == NONE) {
            throw new IllegalStateException("the ship is not grappled");
        }
        history.save(sea);
        sea.untie(sea.ships[ship]);
        return partner;
    }

    public int board(int ship) throws IndexOutOfBoundsException, IllegalStateException {
        needShip(ship);
        Ship attacker = sea.ships[ship];
        if (!sea.isShip(attacker.partner) || attacker.boarded) {
            throw new IllegalStateException("the ship cannot board now");
        }
        history.save(sea);
        return crews.storm(attacker, sea.ships[attacker.partner]) ? 1 : 0;
    }

    // ---- what if

    public int reach(int ship) throws IndexOutOfBoundsException {
        needShip(ship);
        return chart.cellsFor(sea.ships[ship]);
    }

    public int pointsAt(int ship, int cell) throws IndexOutOfBoundsException {
        needShip(ship);
        needCell(cell);
        return chart.pointsLeft(sea.ships[ship], cell);
    }

    public int bestShot(int ship) throws IndexOutOfBoundsException {
        needShip(ship);
        return gunnery.strongestShot(sea.ships[ship]);
    }

    public int bestWind(int ship) throws IndexOutOfBoundsException {
        needShip(ship);
        return sea.fairestWind(sea.ships[ship]);
    }

    public double balance(int side) throws IllegalArgumentException {
        if (!isSide(side)) {
            throw new IllegalArgumentException("no such side");
        }
        int own = sea.weightOf(side);
        int both = own + sea.weightOf(1 - side);
        return both > 0 ? (double) own / (double) both : 0.5;
    }

    // ---- text

    public int append(int value) throws IllegalArgumentException, IllegalStateException {
        if (value < 0 || value > 127) {
            throw new IllegalArgumentException("no such byte");
        }
        if (text.isFull()) {
            throw new IllegalStateException("the text is full");
        }
        text.add(value);
        return text.length;
    }

    public int clearText() {
        int before = text.length;
        text.length = 0;
        return before;
    }

    public int carryOut() {
        int error = text.errorPosition();
        if (error != NONE) {
            return SYNTAX_ERROR - error;
        }
        history.save(sea);
        int done = 0;
        for (int i = 0; i < text.length; i += text.byteAt(i) == 'e' ? 2 : 3) {
            if (!helm.obey(text.byteAt(i), text.byteAt(i + 1))) {
                return done;
            }
            done++;
        }
        return done;
    }

    // ---- state

    public int undo() throws IllegalStateException {
        if (history.count == 0) {
            throw new IllegalStateException("no saved state");
        }
        history.restore(sea);
        return history.count;
    }

    public long digest() {
        long h = 31L * 3347L + text.length;
        for (int what = 0; what <= 9; what++) {
            h = 31L * h + sea.numberAbout(what);
        }
        for (int i = 0; i < sea.shipCount && i < MOST_SHIPS; i++) {
            for (int what = 0; what <= 14; what++) {
                h = 31L * h + sea.numberAboutShip(sea.ships[i], what);
            }
            h = 31L * h + chart.cellsFor(sea.ships[i]);
        }
        int cells = sea.cellCount();
        for (int cell = 0; cell < cells; cell++) {
            h = 31L * h + sea.occupant(cell);
        }
        return 31L * h + history.count;
    }

    // ---- tests of arguments

    private void needCell(int cell) {
        if (!sea.isCell(cell)) {
            throw new IndexOutOfBoundsException("no such cell");
        }
    }

    private void needShip(int number) {
        if (!sea.isShip(number)) {
            throw new IndexOutOfBoundsException("no such ship");
        }
    }

    private void needTwoShips(int one, int other) {
        needShip(one);
        needShip(other);
        if (one == other) {
            throw new IllegalArgumentException("both ships are the same");
        }
    }

    private static boolean isSide(int side) {
        return side == 0 || side == 1;
    }

    private static boolean isDirection(int direction) {
        return direction >= 0 && direction < DIRECTIONS;
    }

    /** One ship; a slot of the sea keeps its object, and a new ship in the slot resets it. */
    private static final class Ship {
        int side;
        int cell;
        int heading;
        int hull;
        int sails;
        int gunsLeft;
        int gunsRight;
        int crew;
        int firstCrew;
        int points;
        int waitLeft;
        int waitRight;
        int partner;
        boolean boarded;
        /** Whether it has moved ahead in this round since it turned last: a tack needs that. */
        boolean hasWay;

        void launch(int newSide, int newCell, int newHeading, int newHull, int guns, int newCrew) {
            side = newSide;
            cell = newCell;
            heading = newHeading;
            hull = newHull;
            sails = 20;
            gunsLeft = guns;
            gunsRight = guns;
            crew = newCrew;
            firstCrew = newCrew;
            points = 0;
            waitLeft = 0;
            waitRight = 0;
            partner = NONE;
            boarded = false;
            hasWay = false;
        }

        void copyFrom(Ship other) {
            side = other.side;
            cell = other.cell;
            heading = other.heading;
            hull = other.hull;
            sails = other.sails;
            gunsLeft = other.gunsLeft;
            gunsRight = other.gunsRight;
            crew = other.crew;
            firstCrew = other.firstCrew;
            points = other.points;
            waitLeft = other.waitLeft;
            waitRight = other.waitRight;
            partner = other.partner;
            boarded = other.boarded;
            hasWay = other.hasWay;
        }

        boolean isAfloat() {
            return hull > 0;
        }

        boolean isTied() {
            return partner != NONE;
        }

        boolean canSail() {
            return isAfloat() && sails > 0 && !isTied() && points > 0;
        }

        int headingAfter(boolean right) {
            return Math.floorMod(heading + (right ? 1 : -1), DIRECTIONS);
        }

        void swing(boolean right) {
            heading = headingAfter(right);
            points--;
            hasWay = false;
        }

        int gunsOn(boolean right) {
            return right ? gunsRight : gunsLeft;
        }

        int waitOn(boolean right) {
            return right ? waitRight : waitLeft;
        }

        void startWait(boolean right) {
            int wait = 2 * crew >= firstCrew ? 1 : 2;
            if (right) {
                waitRight = wait;
            } else {
                waitLeft = wait;
            }
        }

        void shortenWaits() {
            waitLeft = Math.max(0, waitLeft - 1);
            waitRight = Math.max(0, waitRight - 1);
        }
    }

    /** The whole state but the text and the saved states: cells, wind, round and ships. */
    private static final class Sea {
        private static final int[] ROW_STEP = {0, 1, 1, 0, -1, -1};
        private static final int[] COLUMN_STEP = {1, 0, -1, -1, 0, 1};

        int columns;
        int rows;
        int windDirection;
        int windStrength;
        int round;
        int shipCount;
        final int[] rocks;
        final Ship[] ships;

        Sea() {
            rocks = new int[MOST_CELLS];
            ships = new Ship[MOST_SHIPS];
            for (int i = 0; i < MOST_SHIPS; i++) {
                ships[i] = new Ship();
            }
            makeAnew(10, 8);
        }

        void makeAnew(int newColumns, int newRows) {
            columns = newColumns;
            rows = newRows;
            windDirection = 0;
            windStrength = 2;
            round = 1;
            shipCount = 0;
            Arrays.fill(rocks, 0);
        }

        void copyFrom(Sea other) {
            columns = other.columns;
            rows = other.rows;
            windDirection = other.windDirection;
            windStrength = other.windStrength;
            round = other.round;
            shipCount = other.shipCount;
            System.arraycopy(other.rocks, 0, rocks, 0, MOST_CELLS);
            for (int i = 0; i < shipCount && i < MOST_SHIPS; i++) {
                ships[i].copyFrom(other.ships[i]);
            }
        }

        // -- cells

        int cellCount() {
            return Math.min(columns * rows, MOST_CELLS);
        }

        boolean isCell(int cell) {
            return cell >= 0 && cell < columns * rows && cell < MOST_CELLS;
        }

        boolean isShip(int number) {
            return number >= 0 && number < shipCount && number < MOST_SHIPS;
        }

        int rowOf(int cell) {
            return columns > 0 ? cell / columns : 0;
        }

        int columnOf(int cell) {
            return columns > 0 ? cell % columns : 0;
        }

        boolean isRock(int cell) {
            return isCell(cell) && rocks[cell] != 0;
        }

        void markRock(int cell, boolean rock) {
            if (isCell(cell)) {
                rocks[cell] = rock ? 1 : 0;
            }
        }

        int shipOn(int cell) {
            for (int i = 0; i < shipCount && i < MOST_SHIPS; i++) {
                if (ships[i].isAfloat() && ships[i].cell == cell) {
                    return i;
                }
            }
            return NONE;
        }

        boolean isFree(int cell) {
            return isCell(cell) && rocks[cell] == 0 && shipOn(cell) == NONE;
        }

        int occupant(int cell) {
            return isRock(cell) ? ROCK : shipOn(cell);
        }

        /** The next cell in a direction, or NONE if that is off the sea. */
        int neighbour(int cell, int direction) {
            if (!isCell(cell)) {
                return NONE;
            }
            int step = Math.floorMod(direction, DIRECTIONS);
            int row = rowOf(cell) + ROW_STEP[step];
            int column = columnOf(cell) + COLUMN_STEP[step];
            if (row < 0 || row >= rows || column < 0 || column >= columns) {
                return NONE;
            }
            return row * columns + column;
        }

        int movesBetween(int from, int to) {
            int x = rowOf(to) - rowOf(from);
            int y = columnOf(to) - columnOf(from);
            return Math.max(Math.abs(x + y), Math.max(Math.abs(x), Math.abs(y)));
        }

        /** The bearing, plus ON_LINE if the cell lies on a line; NONE if both are the same. */
        int sight(int from, int to) {
            int x = rowOf(to) - rowOf(from);
            int y = columnOf(to) - columnOf(from);
            if (x == 0 && y == 0) {
                return NONE;
            }
            boolean line = x == 0 || y == 0 || x + y == 0;
            return sector(x, y) + (line ? ON_LINE : 0);
        }

        private static int sector(int x, int y) {
            if (x >= 0 && y > 0) {
                return 0;
            }
            if (y <= 0 && x + y > 0) {
                return 1;
            }
            if (x > 0) {
                return 2;
            }
            if (y < 0) {
                return 3;
            }
            return x + y < 0 ? 4 : 5;
        }

        // -- wind and speed

        int angleToWind(int heading) {
            return angleBetween(heading, windDirection);
        }

        private static int angleBetween(int heading, int direction) {
            int turns = Math.floorMod(heading - direction, DIRECTIONS);
            return Math.min(turns, DIRECTIONS - turns);
        }

        private static int factorOf(int angle) {
            switch (angle) {
                case 0:
                    return 2;
                case 1:
                    return 3;
                case 2:
                    return 1;
                default:
                    return 0;
            }
        }

        int speedIn(Ship sailing, int direction) {
            int factor = factorOf(angleBetween(sailing.heading, direction));
            return (factor * windStrength * sailing.sails + 19) / 20;
        }

        int fairestWind(Ship sailing) {
            int best = 0;
            for (int direction = 1; direction < DIRECTIONS; direction++) {
                if (speedIn(sailing, direction) > speedIn(sailing, best)) {
                    best = direction;
                }
            }
            return best;
        }

        // -- ships

        void untie(Ship tied) {
            if (isShip(tied.partner)) {
                ships[tied.partner].partner = NONE;
            }
            tied.partner = NONE;
        }

        int tiedShips() {
            int tied = 0;
            for (int i = 0; i < shipCount && i < MOST_SHIPS; i++) {
                if (ships[i].isTied()) {
                    tied++;
                }
            }
            return tied;
        }

        private int shipsAfloat(int side) {
            int afloat = 0;
            for (int i = 0; i < shipCount && i < MOST_SHIPS; i++) {
                if (ships[i].isAfloat() && ships[i].side == side) {
                    afloat++;
                }
            }
            return afloat;
        }

        /** The hulls and crews of a side that are afloat. */
        int weightOf(int side) {
            int weight = 0;
            for (int i = 0; i < shipCount && i < MOST_SHIPS; i++) {
                if (ships[i].isAfloat() && ships[i].side == side) {
                    weight += ships[i].hull + ships[i].crew;
                }
            }
            return weight;
        }

        // -- numbers to be asked for

        private int rockCount() {
            int count = 0;
            for (int cell = 0; cell < MOST_CELLS; cell++) {
                if (isRock(cell)) {
                    count++;
                }
            }
            return count;
        }

        private int lastRock() {
            for (int cell = MOST_CELLS - 1; cell >= 0; cell--) {
                if (isRock(cell)) {
                    return cell;
                }
            }
            return NONE;
        }

        int numberAbout(int what) {
            switch (what) {
                case 0:
                    return columns;
                case 1:
                    return rows;
                case 2:
                    return windDirection;
                case 3:
                    return windStrength;
                case 4:
                    return round;
                case 5:
                    return shipCount;
                case 6:
                    return shipsAfloat(0);
                case 7:
                    return shipsAfloat(1);
                case 8:
                    return rockCount();
                default:
                    return lastRock();
            }
        }

        int numberAboutShip(Ship asked, int what) {
            switch (what) {
                case 0:
                    return asked.side;
                case 1:
                    return asked.isAfloat() ? asked.cell : NONE;
                case 2:
                    return asked.heading;
                case 3:
                    return asked.hull;
                case 4:
                    return asked.sails;
                case 5:
                    return asked.gunsLeft;
                case 6:
                    return asked.gunsRight;
                case 7:
                    return asked.crew;
                case 8:
                    return asked.points;
                case 9:
                    return asked.waitLeft;
                case 10:
                    return asked.waitRight;
                case 11:
                    return asked.partner;
                case 12:
                    return speedIn(asked, windDirection);
                case 13:
                    return angleToWind(asked.heading);
                default:
                    return asked.boarded ? 1 : 0;
            }
        }
    }

    /** The saved states, the oldest first; their objects are made once and go round. */
    private static final class History {
        private static final int MOST_STATES = 4;

        private final Sea[] states;
        int count;

        History() {
            states = new Sea[MOST_STATES];
            for (int i = 0; i < MOST_STATES; i++) {
                states[i] = new Sea();
            }
            count = 0;
        }

        void save(Sea present) {
            if (count >= MOST_STATES) {
                dropOldest();
            }
            states[count].copyFrom(present);
            count++;
        }

        private void dropOldest() {
            Sea oldest = states[0];
            for (int i = 1; i < MOST_STATES; i++) {
                states[i - 1] = states[i];
            }
            states[MOST_STATES - 1] = oldest;
            count = MOST_STATES - 1;
        }

        void restore(Sea present) {
            if (count > 0 && count <= MOST_STATES) {
                count--;
                present.copyFrom(states[count]);
            }
        }
    }

    /** Moves, rounds, and the orders of the text that ask for them. */
    private static final class Helm {
        private final Sea sea;

        Helm(Sea sea) {
            this.sea = sea;
        }

        boolean canMove(Ship mover) {
            return mover.canSail() && sea.angleToWind(mover.heading) != OPPOSITE
                    && sea.isFree(sea.neighbour(mover.cell, mover.heading));
        }

        void move(Ship mover) {
            mover.cell = sea.neighbour(mover.cell, mover.heading);
            mover.points--;
            mover.hasWay = true;
        }

        boolean canSwing(Ship turner, boolean right) {
            return turner.canSail()
                    && (turner.hasWay || sea.angleToWind(turner.headingAfter(right)) != OPPOSITE);
        }

        void readyForRound(Ship sailing) {
            int least = sailing.sails > 0 ? 1 : 0;
            sailing.points = Math.max(least, sea.speedIn(sailing, sea.windDirection));
            sailing.hasWay = false;
            sailing.boarded = false;
        }

        /** Returns how many ships really moved by drifting. */
        int finishRound() {
            int drifted = 0;
            for (int i = 0; i < sea.shipCount && i < MOST_SHIPS; i++) {
                if (drift(sea.ships[i])) {
                    drifted++;
                }
            }
            sea.round++;
            for (int i = 0; i < sea.shipCount && i < MOST_SHIPS; i++) {
                sea.ships[i].shortenWaits();
                readyForRound(sea.ships[i]);
            }
            return drifted;
        }

        private boolean drift(Ship drifter) {
            if (!drifter.isAfloat() || drifter.sails > 0 || drifter.isTied()) {
                return false;
            }
            int next = sea.neighbour(drifter.cell, sea.windDirection);
            if (sea.windStrength <= 0 || !sea.isFree(next)) {
                return false;
            }
            drifter.cell = next;
            return true;
        }

        /** Carries out the order of which these are the first two bytes, if it is possible. */
        boolean obey(int first, int second) {
            if (first == 'e') {
                finishRound();
                return true;
            }
            if (first == 'w') {
                sea.windDirection = second - '0';
                return true;
            }
            int number = first - '0';
            if (!sea.isShip(number)) {
                return false;
            }
            Ship ordered = sea.ships[number];
            return second == 'a' ? obeyAhead(ordered) : obeyTurn(ordered, second == 'r');
        }

        private boolean obeyAhead(Ship ordered) {
            if (!canMove(ordered)) {
                return false;
            }
            move(ordered);
            return true;
        }

        private boolean obeyTurn(Ship ordered, boolean right) {
            if (!canSwing(ordered, right)) {
                return false;
            }
            ordered.swing(right);
            return true;
        }
    }

    /** Arcs, raking and damage. */
    private static final class Gunnery {
        private static final int RANGE = 6;
        private static final int CREW_RANGE = 2;

        private final Sea sea;

        Gunnery(Sea sea) {
            this.sea = sea;
        }

        /** LEFT or RIGHT: the arc of a heading in which a sight lies; NONE if in neither. */
        private static int arcOf(int heading, int sight) {
            if (sight == NONE) {
                return NONE;
            }
            boolean line = sight >= ON_LINE;
            int turns = Math.floorMod(sight % ON_LINE - heading, DIRECTIONS);
            if (turns == 1 || turns == 2 && line) {
                return RIGHT;
            }
            if (turns == 4 || turns == 5 && line) {
                return LEFT;
            }
            return NONE;
        }

        private boolean isHidden(int from, int to) {
            int sight = sea.sight(from, to);
            if (sight < ON_LINE) {
                return false;
            }
            int moves = sea.movesBetween(from, to);
            int between = from;
            for (int i = 1; i < moves; i++) {
                between = sea.neighbour(between, sight - ON_LINE);
                if (!sea.isFree(between)) {
                    return true;
                }
            }
            return false;
        }

        private boolean rakes(Ship firing, Ship target) {
            int sight = sea.sight(target.cell, firing.cell);
            if (sight < ON_LINE) {
                return false;
            }
            int turns = Math.floorMod(sight - ON_LINE - target.heading, DIRECTIONS);
            return turns == 0 || turns == OPPOSITE;
        }

        /** The force with loaded guns; 0 exactly if a shot is not possible even with them. */
        int forceOn(Ship firing, boolean right, Ship target) {
            if (!firing.isAfloat() || !target.isAfloat() || firing.side == target.side) {
                return 0;
            }
            int moves = sea.movesBetween(firing.cell, target.cell);
            int arc = arcOf(firing.heading, sea.sight(firing.cell, target.cell));
            if (moves > RANGE || arc != (right ? RIGHT : LEFT)
                    || isHidden(firing.cell, target.cell)) {
                return 0;
            }
            int force = firing.gunsOn(right) * (RANGE + 1 - moves);
            return rakes(firing, target) ? 2 * force : force;
        }

        boolean canShoot(Ship firing, boolean right, Ship target, int aim) {
            if (firing.waitOn(right) > 0 || forceOn(firing, right, target) <= 0) {
                return false;
            }
            return aim != AIM_CREW || sea.movesBetween(firing.cell, target.cell) <= CREW_RANGE;
        }

        /** Returns what the part that was aimed at has lost. */
        int shoot(Ship firing, boolean right, Ship target, int aim) {
            int force = forceOn(firing, right, target);
            firing.startWait(right);
            if (aim == AIM_HULL) {
                return hitHull(firing, target, force);
            }
            if (aim == AIM_SAILS) {
                int loss = Math.min(target.sails, force / 6);
                target.sails -= loss;
                return loss;
            }
            int loss = Math.max(0, Math.min(target.crew - 1, force / 5));
            target.crew -= loss;
            return loss;
        }

        private int hitHull(Ship firing, Ship target, int force) {
            int loss = Math.min(target.hull, force / 4);
            int arc = arcOf(target.heading, sea.sight(target.cell, firing.cell));
            if (arc == LEFT) {
                target.gunsLeft = Math.max(0, target.gunsLeft - force / 12);
            } else if (arc == RIGHT) {
                target.gunsRight = Math.max(0, target.gunsRight - force / 12);
            }
            target.hull -= loss;
            if (!target.isAfloat()) {
                sea.untie(target);
            }
            return loss;
        }

        int strongestShot(Ship firing) {
            int best = NONE;
            int bestForce = 0;
            for (int i = 0; i < sea.shipCount && i < MOST_SHIPS; i++) {
                for (int guns = LEFT; guns <= RIGHT; guns++) {
                    int force = forceOn(firing, guns == RIGHT, sea.ships[i]);
                    if (force > bestForce) {
                        bestForce = force;
                        best = 2 * i + guns;
                    }
                }
            }
            return best;
        }
    }

    /** Grappling and boarding. */
    private static final class Crews {
        private final Sea sea;

        Crews(Sea sea) {
            this.sea = sea;
        }

        boolean canTie(Ship one, Ship other) {
            return one.isAfloat() && other.isAfloat() && one.side != other.side
                    && !one.isTied() && !other.isTied()
                    && sea.movesBetween(one.cell, other.cell) == 1;
        }

        /** Returns whether the defender is taken. */
        boolean storm(Ship attacker, Ship defender) {
            int strength = attacker.crew;
            int resistance = defender.crew;
            defender.crew = resistance - (strength + 2) / 3;
            attacker.crew = Math.max(1, strength - (resistance + 3) / 4);
            attacker.boarded = true;
            if (defender.crew > 0) {
                return false;
            }
            seize(attacker, defender);
            return true;
        }

        private void seize(Ship attacker, Ship prize) {
            int left = attacker.crew;
            int goingOver = Math.min((left + 3) / 4, left - 1);
            attacker.crew = left - goingOver;
            prize.crew = Math.max(1, goingOver);
            prize.side = attacker.side;
            sea.untie(attacker);
        }
    }

    /**
     * What a ship can reach in this round. Every move costs one point, so a search in breadth
     * comes to each cell with the most points left at the first time.
     */
    private static final class Chart {
        /** A stand is a cell, a heading and whether the ship has way: twelve of a cell. */
        private static final int STANDS = 2 * DIRECTIONS;

        private final Sea sea;
        private final int[] seenStands;
        private final int[] mostPoints;
        private final int[] queue;
        private int queued;
        private int cellCount;

        Chart(Sea sea) {
            this.sea = sea;
            seenStands = new int[MOST_CELLS];
            mostPoints = new int[MOST_CELLS];
            queue = new int[MOST_CELLS * STANDS];
            queued = 0;
            cellCount = 0;
        }

        int cellsFor(Ship sailing) {
            explore(sailing);
            return cellCount;
        }

        int pointsLeft(Ship sailing, int cell) {
            explore(sailing);
            return sea.isCell(cell) ? mostPoints[cell] : NONE;
        }

        private void explore(Ship sailing) {
            Arrays.fill(seenStands, 0);
            Arrays.fill(mostPoints, NONE);
            queued = 0;
            cellCount = 0;
            if (!sailing.isAfloat()) {
                return;
            }
            note(sailing.cell, sailing.heading, sailing.hasWay, sailing.points);
            if (!sailing.canSail()) {
                return;
            }
            int next = 0;
            for (int points = sailing.points; points > 0; points--) {
                int end = queued;
                for (; next < end && next < queue.length; next++) {
                    spread(sailing, queue[next], points - 1);
                }
            }
        }

        private void spread(Ship sailing, int stand, int points) {
            int cell = stand / STANDS;
            int heading = stand % STANDS / 2;
            boolean hasWay = stand % 2 != 0;
            if (sea.angleToWind(heading) != OPPOSITE) {
                int next = sea.neighbour(cell, heading);
                // Once under way the ship no longer blocks the cell from which it sails.
                if (next == sailing.cell || sea.isFree(next)) {
                    note(next, heading, true, points);
                }
            }
            int right = (heading + 1) % DIRECTIONS;
            if (hasWay || sea.angleToWind(right) != OPPOSITE) {
                note(cell, right, false, points);
            }
            int left = (heading + DIRECTIONS - 1) % DIRECTIONS;
            if (hasWay || sea.angleToWind(left) != OPPOSITE) {
                note(cell, left, false, points);
            }
        }

        private void note(int cell, int heading, boolean hasWay, int points) {
            if (!sea.isCell(cell) || queued >= queue.length) {
                return;
            }
            int stand = 2 * heading + (hasWay ? 1 : 0);
            int mark = 1 << stand;
            if ((seenStands[cell] & mark) != 0) {
                return;
            }
            seenStands[cell] |= mark;
            queue[queued] = cell * STANDS + stand;
            queued++;
            if (mostPoints[cell] == NONE) {
                mostPoints[cell] = points;
                cellCount++;
            }
        }
    }

    /** The order text and its grammar. */
    private static final class OrderText {
        private static final int MOST_BYTES = 150;
        private static final int AT_START = 0;
        private static final int BEHIND_SHIP = 1;
        private static final int BEHIND_WIND = 2;
        private static final int AT_END = 3;

        private final int[] bytes;
        int length;

        OrderText() {
            bytes = new int[MOST_BYTES];
            length = 0;
        }

        boolean isFull() {
            return length >= MOST_BYTES;
        }

        void add(int value) {
            if (length >= 0 && length < MOST_BYTES) {
                bytes[length] = value;
                length++;
            }
        }

        int byteAt(int index) {
            return index >= 0 && index < length && index < MOST_BYTES ? bytes[index] : NONE;
        }

        /** The syntax error position, or NONE if there is no syntax error. */
        int errorPosition() {
            int place = AT_START;
            for (int i = 0; i < length; i++) {
                place = placeBehind(place, byteAt(i));
                if (place == NONE) {
                    return i;
                }
            }
            return place == AT_START ? NONE : length;
        }

        private static int placeBehind(int place, int sign) {
            switch (place) {
                case AT_START:
                    return placeBehindFirst(sign);
                case BEHIND_SHIP:
                    return sign == 'a' || sign == 'l' || sign == 'r' ? AT_END : NONE;
                case BEHIND_WIND:
                    return sign >= '0' && sign <= '5' ? AT_END : NONE;
                default:
                    return sign == ';' ? AT_START : NONE;
            }
        }

        private static int placeBehindFirst(int sign) {
            if (sign >= '0' && sign <= '9') {
                return BEHIND_SHIP;
            }
            if (sign == 'w') {
                return BEHIND_WIND;
            }
            return sign == 'e' ? AT_END : NONE;
        }
    }
}
