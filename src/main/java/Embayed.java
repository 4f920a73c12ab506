/**
 * A ship with square sails, embayed: a bay of cells told in letters, the wind in,
 * ten minutes by ten minutes. What each call answers is told, promise by promise,
 * in ../shared/DOC.md; the words here are the words there.
 */
public final class Embayed {
    private static final int NOBODY = -1;
    private static final int OTHER = -2;
    private static final int STATE = -3;
    private static final int BELOW = -4;
    private static final int ROOM = -6;
    private static final int REFUSAL_NUMBERS = 6;

    private static final int NONE = -9;
    private static final int BEYOND = -1;
    private static final int FAULT_BASE = -1000;
    private static final int FAR_REFUSAL = 1000000000;

    private static final int DIRECTIONS = 8;
    private static final int LEAST_SIDE = 2;
    private static final int GREATEST_SIDE = 8;
    private static final int MOST_CELLS = 64;
    private static final int MOST_LETTERS = 80;
    private static final int GREATEST_LETTER = 255;

    private static final int LAND = 0;
    private static final int DEEP = 20;
    private static final int BEACH = 30;

    private static final int SETTINGS = 7;
    private static final int GREATEST_SEA = 9;

    private static final int GAINING = 0;
    private static final int LOSING = 1;
    private static final int WORN = 2;
    private static final int HAULED = 3;
    private static final int ANCHORED = 4;
    private static final int BEACHED = 5;
    private static final int STRUCK = 6;
    private static final int SUNK = 7;
    private static final int CLEARED = 8;

    private static final int GREATEST_SAIL = 3;
    private static final int MOST_MASTS = 3;
    private static final int FIRST_ANCHORS = 2;
    private static final int FULL_OF_WATER = 100;
    private static final int CELL_LENGTH = 10;
    private static final int MOST_GUNS = 9;
    private static final int CALM_ENOUGH = 5;
    private static final int HOLDING_DEPTH = 9;

    private static final int BOOK_ROOM = 8;
    private static final int GREATEST_TEN = 999;
    private static final int GREATEST_TIDE = 5;
    private static final int LOG_ROOM = 12;
    private static final int NO_CELL_IN_LOG = 99;
    private static final int MOST_TENS = 99;

    private static final int MIND_TENS = 60;
    private static final int BEACH_TENS = 30;
    private static final int STOOD_TENS = 40;
    private static final int WORTH_TENS = 30;
    private static final int PLAN_TENS = 20;
    private static final int PLAN_ACTS = 4;
    private static final int ACTS = 5;
    private static final int NEVER = 2147483647;
    private static final int WITHOUT_SIGN = 2147483647;

    private static final int[] DOWN = {-1, -1, 0, 1, 1, 1, 0, -1};
    private static final int[] ACROSS = {0, 1, 1, 1, 0, -1, -1, -1};
    private static final int[] LEAST_SETTING = {0, 1, 0, 0, 1, 0, 0};
    private static final int[] GREATEST_SETTING = {9, 9, 9, 60, 3, 9, 99};
    private static final int[] ROWS_OF_ACTS = {1, 5, 25, 125, 625};

    private final Letters letters;
    private final World world;
    private final Ship ship;
    private final Ship mind;
    private final World worldThen;
    private final Ship shipThen;
    private final Escape escape;
    private final LogBook logBook;
    private final int[] refusals;
    private boolean imageTaken;

    public Embayed() {
        letters = new Letters();
        world = new World();
        ship = new Ship();
        mind = new Ship();
        worldThen = new World();
        shipThen = new Ship();
        escape = new Escape();
        logBook = new LogBook();
        refusals = new int[REFUSAL_NUMBERS + 1];
        imageTaken = false;
    }

    public int letter(int c) {
        if (c < 0) return refuse(BELOW);
        if (c > GREATEST_LETTER || letters.told >= MOST_LETTERS) return refuse(ROOM);
        return letters.tell(c);
    }

    public int bay() {
        int fault = letters.faultPlace();
        if (fault >= 0) {
            letters.forget();
            return FAULT_BASE - fault;
        }
        world.chart.draw(letters);
        letters.forget();
        ship.leaveBay();
        return world.chart.cells();
    }

    public int cell(int cell) {
        if (!world.chart.has(cell)) return refuse(NOBODY);
        return world.chart.groundAt(cell);
    }

    public int set(int what, int v) {
        if (what < 0 || what >= SETTINGS) return refuse(OTHER);
        if (v < valueAt(LEAST_SETTING, what)) return refuse(BELOW);
        if (v > valueAt(GREATEST_SETTING, what)) return refuse(ROOM);
        int before = world.setting(what);
        world.change(what, v);
        return before;
    }

    public int wind(int ten, int direction) {
        if (!isDirection(direction)) return refuse(NOBODY);
        if (ten < 0) return refuse(BELOW);
        if (ten > GREATEST_TEN || world.shifts.isFull()) return refuse(ROOM);
        return world.shifts.tell(ten, direction);
    }

    public int tide(int ten, int v) {
        if (ten < 0 || v < 0) return refuse(BELOW);
        if (ten > GREATEST_TEN || v > GREATEST_TIDE || world.tides.isFull()) return refuse(ROOM);
        return world.tides.tell(ten, v);
    }

    public int lays(int cell) {
        if (!world.chart.has(cell)) return refuse(NOBODY);
        if (!world.floatsAt(cell)) return refuse(STATE);
        ship.layIn(cell);
        ship.heading = leeOf(ship.windIn(world));
        return ship.heading;
    }

    public int now(int what) {
        if (what < 0 || what > 13) return refuse(OTHER);
        if (!ship.inBay) return refuse(STATE);
        switch (what) {
            case 0: return ship.place;
            case 1: return ship.heading;
            case 2: return ship.sails;
            case 3: return ship.masts;
            case 4: return ship.anchors;
            case 5: return ship.water;
            case 6: return ship.gone;
            case 7: return ship.slid;
            case 8: return ship.ten;
            case 9: return ship.kind;
            case 10: return ship.windIn(world);
            case 11: return ship.tideIn(world);
            case 12: return world.guns;
            default: return ship.livesIn(world);
        }
    }

    public int run(int n) {
        if (n < 1) return refuse(BELOW);
        if (n > MOST_TENS) return refuse(ROOM);
        if (!ship.inBay) return refuse(STATE);
        ship.passTens(world, n);
        return ship.kind;
    }

    public int head(int direction) {
        if (!isDirection(direction)) return refuse(NOBODY);
        if (!ship.mayTurn(world, direction)) return refuse(STATE);
        if (ship.wouldFailInStays(world, direction)) return refuse(STATE);
        ship.heading = direction;
        return apart(direction, ship.windIn(world));
    }

    public int wear(int direction) {
        if (!isDirection(direction)) return refuse(NOBODY);
        if (!ship.mayTurn(world, direction)) return refuse(STATE);
        ship.turnBeforeWind(world, direction);
        return ship.kind;
    }

    public int haul(int direction) {
        if (!isDirection(direction)) return refuse(NOBODY);
        if (!ship.mayTurn(world, direction) || ship.anchors < 1) return refuse(STATE);
        ship.turnRoundAnchor(direction);
        return ship.anchors;
    }

    public int sail(int v) {
        if (v < 0) return refuse(BELOW);
        if (v > GREATEST_SAIL) return refuse(ROOM);
        if (!ship.isAlive()) return refuse(STATE);
        int before = ship.sails;
        ship.sails = v;
        return before;
    }

    public int anchor() {
        if (!ship.mayAnchor()) return refuse(STATE);
        ship.kind = ANCHORED;
        return ship.anchors;
    }

    public int cut() {
        if (!ship.inBay || ship.kind != ANCHORED) return refuse(STATE);
        ship.anchors--;
        ship.kind = LOSING;
        return ship.anchors;
    }

    public int axe() {
        if (!ship.isAlive() || ship.masts < 1) return refuse(STATE);
        ship.masts--;
        return ship.masts;
    }

    public int over() {
        if (!ship.isAlive() || world.guns < 1) return refuse(STATE);
        world.guns--;
        return world.guns;
    }

    public int still(int cell) {
        if (!world.chart.has(cell)) return refuse(NOBODY);
        escape.reckon(world, ship.windIn(world));
        return escape.movesFrom(cell);
    }

    public int clears() {
        escape.reckon(world, ship.windIn(world));
        int many = 0;
        for (int c = 0; c < world.chart.cells(); c++) {
            if (escape.movesFrom(c) != NONE) many++;
        }
        return many;
    }

    public int line() {
        if (!ship.inBay) return refuse(STATE);
        for (int v = 1; v <= GREATEST_SAIL; v++) {
            mind.copyFrom(ship);
            mind.sails = v;
            mind.passTens(world, MIND_TENS);
            if (mind.kind == CLEARED) return v;
        }
        return NONE;
    }

    public int lighter() {
        if (!ship.inBay) return FAR_REFUSAL - refuse(STATE);
        mind.copyFrom(ship);
        mind.gunless = true;
        int without = mind.tensTillEnded(world);
        mind.copyFrom(ship);
        return without - mind.tensTillEnded(world);
    }

    public int holds(int cell, int masts, int tide) {
        if (!world.chart.has(cell)) return refuse(NOBODY);
        if (masts < 0 || tide < 0) return refuse(BELOW);
        if (masts > MOST_MASTS || tide > GREATEST_TIDE) return refuse(ROOM);
        int depth = world.chart.groundAt(cell);
        if (!isSea(depth)) return refuse(STATE);
        for (int sea = GREATEST_SEA; sea >= 0; sea--) {
            if (loadOf(sea, masts) <= holdOf(depth, tide)) return sea;
        }
        return NONE;
    }

    public int beachBest() {
        if (!world.chart.hasBeach()) return NONE;
        int best = 0;
        int most = -1;
        for (int t = 0; t <= BEACH_TENS; t++) {
            int lives = world.livesOnBeach(world.tides.latestAt(t), world.isDarkAt(t));
            if (lives > most) {
                most = lives;
                best = t;
            }
        }
        return best;
    }

    public int plan(int n, int i) {
        if (n < 0 || i < -1) return refuse(BELOW);
        if (n > PLAN_ACTS) return refuse(ROOM);
        if (!ship.inBay) return refuse(STATE);
        if (i >= n) return NONE;
        int row = bestRowOfActs(n);
        return i < 0 ? livesByActs(n, row) : actInRow(n, row, i);
    }

    public int stood(int cell, int head) {
        if (!world.chart.has(cell) || !isDirection(head)) return refuse(NOBODY);
        if (!world.floatsAt(cell) || !ship.inBay) return refuse(STATE);
        for (int t = STOOD_TENS; t >= 0; t--) {
            mind.layIn(cell);
            mind.heading = head;
            mind.sails = ship.sails;
            mind.ten = t;
            mind.passTens(world, MIND_TENS);
            if (mind.kind == CLEARED) return t;
        }
        return NONE;
    }

    public int worth(int n, int direction) {
        if (!isDirection(direction)) return FAR_REFUSAL - refuse(NOBODY);
        if (n < 0) return FAR_REFUSAL - refuse(BELOW);
        if (n >= WORTH_TENS) return FAR_REFUSAL - refuse(ROOM);
        if (!ship.inBay) return FAR_REFUSAL - refuse(STATE);
        mind.copyFrom(ship);
        mind.toldFrom = ship.ten + n;
        mind.toldWind = direction;
        mind.passTens(world, WORTH_TENS);
        int shifted = mind.livesIn(world);
        mind.copyFrom(ship);
        mind.passTens(world, WORTH_TENS);
        return shifted - mind.livesIn(world);
    }

    public int light() {
        int best = NONE;
        int most = -1;
        for (int c = 0; c < world.chart.cells(); c++) {
            int seen = world.chart.groundAt(c) == LAND ? world.chart.seaSeenFrom(c) : -1;
            if (seen > most) {
                most = seen;
                best = c;
            }
        }
        return best;
    }

    public int night(int n, int z) {
        if (n < 1) return refuse(BELOW);
        if (n > MOST_TENS) return refuse(ROOM);
        if (!ship.inBay) return refuse(STATE);
        mind.copyFrom(ship);
        int seed = z;
        for (int t = 0; t < n; t++) {
            seed = seedAfter(seed);
            if (drawn(seed, 10) == 0) {
                seed = seedAfter(seed);
                mind.turned = goneRound(mind.turned + drawn(seed, DIRECTIONS));
            }
            mind.passTen(world);
        }
        return mind.livesIn(world);
    }

    public int log(int cell) {
        if (cell < 0) return refuse(BELOW);
        if (cell > NO_CELL_IN_LOG || logBook.isFull()) return refuse(ROOM);
        return logBook.tell(cell);
    }

    public int judge() {
        if (!ship.inBay) return refuse(STATE);
        mind.copyFrom(ship);
        int wrong = logBook.firstWrong(world, mind);
        logBook.told = 0;
        return wrong;
    }

    public int image() {
        worldThen.copyFrom(world);
        shipThen.copyFrom(ship);
        imageTaken = true;
        return world.chart.cells();
    }

    public int on() {
        if (!imageTaken) return refuse(STATE);
        world.copyFrom(worldThen);
        ship.copyFrom(shipThen);
        return world.chart.cells();
    }

    public int count(int what) {
        switch (what) {
            case 0: return world.chart.rows;
            case 1: return world.chart.columns;
            case 2: return world.shifts.told;
            case 3: return world.tides.told;
            case 4: return logBook.told;
            case 5: return letters.told;
            case 6: return ship.inBay ? 1 : 0;
            default: break;
        }
        if (what > 10 && what <= 10 + REFUSAL_NUMBERS) return valueAt(refusals, what - 10);
        return NONE;
    }

    private int refuse(int why) {
        int place = -why;
        if (place >= 0 && place < refusals.length) refusals[place]++;
        return why;
    }

    private int bestRowOfActs(int n) {
        int rows = valueAt(ROWS_OF_ACTS, n);
        int all = world.crew;
        int best = 0;
        int most = -1;
        for (int row = 0; row < rows && most < all; row++) {
            int lives = livesByActs(n, row);
            if (lives > most) {
                most = lives;
                best = row;
            }
        }
        return best;
    }

    private int livesByActs(int n, int row) {
        mind.copyFrom(ship);
        for (int t = 0; t < PLAN_TENS && !mind.isEnded(); t++) {
            if (t < n) mind.tryAct(world, actInRow(n, row, t));
            mind.passTen(world);
        }
        return mind.livesIn(world);
    }

    /** The rows are numbers to the base of the acts, the first act standing highest: so the first row is the least. */
    private static int actInRow(int n, int row, int i) {
        int behind = valueAt(ROWS_OF_ACTS, n - 1 - i);
        return behind > 0 ? row / behind % ACTS : 0;
    }

    private static int valueAt(int[] row, int i) {
        return i >= 0 && i < row.length ? row[i] : 0;
    }

    private static void copyRow(int[] from, int[] to) {
        for (int i = 0; i < from.length && i < to.length; i++) to[i] = from[i];
    }

    private static boolean isDirection(int d) {
        return d >= 0 && d < DIRECTIONS;
    }

    private static int goneRound(int d) {
        return d & DIRECTIONS - 1;
    }

    private static int leeOf(int windDirection) {
        return goneRound(windDirection + DIRECTIONS / 2);
    }

    private static int apart(int a, int b) {
        int way = goneRound(a - b);
        return Math.min(way, DIRECTIONS - way);
    }

    private static boolean isSea(int ground) {
        return ground > LAND && ground <= DEEP;
    }

    private static int holdOf(int depth, int tideThen) {
        return 2 * Math.min(HOLDING_DEPTH, depth + tideThen) + 3;
    }

    private static int loadOf(int sea, int masts) {
        return 2 * sea + masts;
    }

    private static int seedAfter(int z) {
        return z * 1664525 + 1013904223;
    }

    private static int drawn(int z, int m) {
        return m > 0 ? (z & WITHOUT_SIGN) / 256 % m : 0;
    }

    /** The letters told and not yet made a bay. */
    private static final class Letters {
        private final int[] signs = new int[MOST_LETTERS];
        private int told = 0;

        int tell(int sign) {
            if (told >= 0 && told < signs.length) {
                signs[told] = sign;
                told++;
            }
            return told;
        }

        void forget() {
            told = 0;
        }

        int signAt(int i) {
            return i < told ? valueAt(signs, i) : 0;
        }

        /** The place of the first letter with which no bay can go on; -1 if the letters are a bay. */
        int faultPlace() {
            int rowsBehind = 0;
            int columns = GREATEST_SIDE;
            int inRow = 0;
            for (int i = 0; i < told; i++) {
                int sign = signAt(i);
                if (sign == '/') {
                    boolean rowStands = rowsBehind == 0 ? inRow >= LEAST_SIDE : inRow == columns;
                    if (!rowStands || rowsBehind == GREATEST_SIDE - 1) return i;
                    columns = inRow;
                    rowsBehind++;
                    inRow = 0;
                } else {
                    if (groundOf(sign) < 0 || inRow == columns) return i;
                    inRow++;
                }
            }
            return rowsBehind + 1 >= LEAST_SIDE && inRow == columns ? -1 : told;
        }

        static int groundOf(int sign) {
            if (sign == '#') return LAND;
            if (sign == 'b') return BEACH;
            if (sign == '.') return DEEP;
            return sign >= '1' && sign <= '9' ? sign - '0' : -1;
        }
    }

    /** The bay: rows of cells, none before the first. */
    private static final class Chart {
        private final int[] grounds = new int[MOST_CELLS];
        private int rows = 0;
        private int columns = 0;

        void draw(Letters letters) {
            int place = 0;
            rows = 1;
            for (int i = 0; i < letters.told; i++) {
                int ground = Letters.groundOf(letters.signAt(i));
                if (ground < 0) {
                    rows++;
                } else if (place < grounds.length) {
                    grounds[place] = ground;
                    place++;
                }
            }
            columns = rows > 0 ? place / rows : 0;
        }

        int cells() {
            return rows * columns;
        }

        boolean has(int cell) {
            return cell >= 0 && cell < rows * columns;
        }

        int groundAt(int cell) {
            return cell >= 0 && cell < grounds.length ? grounds[cell] : LAND;
        }

        /** The cell beside a cell by a direction; BEYOND if there is none. */
        int beside(int cell, int direction) {
            if (!has(cell) || columns <= 0) return BEYOND;
            int row = cell / columns + valueAt(DOWN, direction);
            int column = cell % columns + valueAt(ACROSS, direction);
            if (row < 0 || row >= rows || column < 0 || column >= columns) return BEYOND;
            return row * columns + column;
        }

        boolean hasBeach() {
            for (int c = 0; c < cells(); c++) {
                if (groundAt(c) == BEACH) return true;
            }
            return false;
        }

        int seaSeenFrom(int cell) {
            int seen = 0;
            for (int d = 0; d < DIRECTIONS; d++) seen += seaSeenBy(cell, d);
            return seen;
        }

        private int seaSeenBy(int cell, int direction) {
            int seen = 0;
            int at = beside(cell, direction);
            for (int far = 1; far < GREATEST_SIDE; far++) {
                if (at == BEYOND || groundAt(at) == LAND) return seen;
                if (isSea(groundAt(at))) seen++;
                at = beside(at, direction);
            }
            return seen;
        }

        void copyFrom(Chart other) {
            copyRow(other.grounds, grounds);
            rows = other.rows;
            columns = other.columns;
        }
    }

    /** One half of the book: what holds from a ten on. */
    private static final class Book {
        private final int[] tens = new int[BOOK_ROOM];
        private final int[] values = new int[BOOK_ROOM];
        private int told = 0;

        boolean isFull() {
            return told >= BOOK_ROOM;
        }

        int tell(int ten, int value) {
            if (told >= 0 && told < tens.length && told < values.length) {
                tens[told] = ten;
                values[told] = value;
                told++;
            }
            return told;
        }

        int latestAt(int ten) {
            int latest = 0;
            int value = 0;
            for (int i = 0; i < told && i < tens.length && i < values.length; i++) {
                if (tens[i] <= ten && tens[i] >= latest) {
                    latest = tens[i];
                    value = values[i];
                }
            }
            return value;
        }

        void copyFrom(Book other) {
            copyRow(other.tens, tens);
            copyRow(other.values, values);
            told = other.told;
        }
    }

    /** All that is round the ship: the bay, the settings, the book. */
    private static final class World {
        private final Chart chart = new Chart();
        private final Book shifts = new Book();
        private final Book tides = new Book();
        private int sea = 3;
        private int draft = 3;
        private int leak = 0;
        private int crew = 40;
        private int near = 2;
        private int guns = 5;
        private int dark = 30;

        int setting(int what) {
            switch (what) {
                case 0: return sea;
                case 1: return draft;
                case 2: return leak;
                case 3: return crew;
                case 4: return near;
                case 5: return guns;
                default: return dark;
            }
        }

        void change(int what, int v) {
            switch (what) {
                case 0: sea = v; break;
                case 1: draft = v; break;
                case 2: leak = v; break;
                case 3: crew = v; break;
                case 4: near = v; break;
                case 5: guns = v; break;
                default: dark = v; break;
            }
        }

        /** Whether a ship can be laid in the cell: sea no less deep than her draft, without the tide. */
        boolean floatsAt(int cell) {
            if (!chart.has(cell)) return false;
            int ground = chart.groundAt(cell);
            return isSea(ground) && ground >= draft;
        }

        boolean isDarkAt(int ten) {
            return ten >= dark;
        }

        int livesOnBeach(int tideThen, boolean dark) {
            int hundredths = 20 + 10 * tideThen + (dark ? 0 : 30);
            return Math.min(crew, crew * hundredths / 100);
        }

        void copyFrom(World other) {
            chart.copyFrom(other.chart);
            shifts.copyFrom(other.shifts);
            tides.copyFrom(other.tides);
            sea = other.sea;
            draft = other.draft;
            leak = other.leak;
            crew = other.crew;
            near = other.near;
            guns = other.guns;
            dark = other.dark;
        }
    }

    /** The ship as she is now, or a copy of her that is sailed in mind. */
    private static final class Ship {
        private boolean inBay;
        private int place;
        private int heading;
        private int sails;
        private int masts;
        private int anchors;
        private int water;
        private int gone;
        private int slid;
        private int ten;
        private int kind;
        private int endedTide;
        private boolean endedDark;
        // What is thought otherwise in mind; of the ship herself these never change.
        private boolean gunless;
        private int turned;
        private int toldFrom;
        private int toldWind;

        Ship() {
            leaveBay();
        }

        void leaveBay() {
            layIn(NONE);
            inBay = false;
        }

        /** Laid, but for her heading, which the caller knows. */
        void layIn(int cell) {
            inBay = true;
            place = cell;
            heading = 0;
            sails = 1;
            masts = MOST_MASTS;
            anchors = FIRST_ANCHORS;
            water = 0;
            gone = 0;
            slid = 0;
            ten = 0;
            kind = LOSING;
            endedTide = 0;
            endedDark = false;
            gunless = false;
            turned = 0;
            toldFrom = NEVER;
            toldWind = 0;
        }

        void copyFrom(Ship other) {
            inBay = other.inBay;
            place = other.place;
            heading = other.heading;
            sails = other.sails;
            masts = other.masts;
            anchors = other.anchors;
            water = other.water;
            gone = other.gone;
            slid = other.slid;
            ten = other.ten;
            kind = other.kind;
            endedTide = other.endedTide;
            endedDark = other.endedDark;
            gunless = other.gunless;
            turned = other.turned;
            toldFrom = other.toldFrom;
            toldWind = other.toldWind;
        }

        boolean isEnded() {
            return kind == BEACHED || kind == STRUCK || kind == SUNK || kind == CLEARED;
        }

        boolean isAlive() {
            return inBay && !isEnded();
        }

        int windIn(World w) {
            return ten >= toldFrom ? toldWind : goneRound(w.shifts.latestAt(ten) + turned);
        }

        int tideIn(World w) {
            return w.tides.latestAt(ten);
        }

        int livesIn(World w) {
            int crew = w.crew;
            switch (kind) {
                case BEACHED: return w.livesOnBeach(endedTide, endedDark);
                case STRUCK: return crew * (endedDark ? 10 : 40) / 100;
                case SUNK: return 0;
                default: return crew;
            }
        }

        boolean mayTurn(World w, int direction) {
            return isAlive() && kind != ANCHORED && apart(direction, windIn(w)) >= w.near;
        }

        boolean wouldFailInStays(World w, int direction) {
            return w.sea > CALM_ENOUGH && passesWind(windIn(w), direction);
        }

        /** Whether the wind lies between her heading and a direction, on the shorter way, ends not counted. */
        private boolean passesWind(int windDirection, int direction) {
            int way = apart(heading, direction);
            if (way == DIRECTIONS / 2 || windDirection == heading || windDirection == direction) return false;
            return apart(heading, windDirection) + apart(windDirection, direction) == way;
        }

        boolean mayAnchor() {
            return isAlive() && kind != ANCHORED && anchors > 0;
        }

        void turnBeforeWind(World w, int direction) {
            heading = direction;
            goInto(w, leeOf(windIn(w)));
            if (!isEnded()) kind = WORN;
        }

        void turnRoundAnchor(int direction) {
            heading = direction;
            anchors--;
            kind = HAULED;
        }

        /** An act of a plan: 0 none, 1 and 2 wear, 3 anchor, 4 a sail more; one that can not be is none. */
        void tryAct(World w, int act) {
            if (act == 1 || act == 2) {
                int direction = goneRound(heading + (act == 1 ? 2 : -2));
                if (mayTurn(w, direction)) turnBeforeWind(w, direction);
            } else if (act == 3) {
                if (mayAnchor()) kind = ANCHORED;
            } else if (act == 4) {
                if (isAlive() && sails < GREATEST_SAIL) sails++;
            }
        }

        void passTens(World w, int n) {
            for (int t = 0; t < n; t++) passTen(w);
        }

        int tensTillEnded(World w) {
            int tens = 0;
            while (tens < MIND_TENS && !isEnded()) {
                passTen(w);
                tens++;
            }
            return tens;
        }

        void passTen(World w) {
            if (!isEnded()) {
                int pace = kind == ANCHORED ? 0 : paceIn(w);
                if (kind == ANCHORED) strainAtAnchor(w);
                else goOn(w, pace);
                if (!isEnded()) leak(w);
                if (!isEnded() && kind != ANCHORED) settleKind(w, pace);
            }
            ten++;
        }

        private int paceIn(World w) {
            int off = apart(heading, windIn(w));
            return off < w.near ? 0 : Math.min(sails, masts) * (off + 1);
        }

        private void strainAtAnchor(World w) {
            int hold = holdOf(w.chart.groundAt(place), tideIn(w));
            if (loadOf(w.sea, masts) > hold) goInto(w, leeOf(windIn(w)));
        }

        private void goOn(World w, int pace) {
            int guns = gunless ? 0 : w.guns;
            gone += pace;
            slid += w.sea + (MOST_GUNS - guns) / 3 + water / 25;
            while (gone >= CELL_LENGTH && !isEnded()) {
                gone -= CELL_LENGTH;
                goInto(w, heading);
            }
            while (slid >= CELL_LENGTH && !isEnded()) {
                slid -= CELL_LENGTH;
                goInto(w, leeOf(windIn(w)));
            }
        }

        private void goInto(World w, int direction) {
            int next = w.chart.beside(place, direction);
            int ground = w.chart.groundAt(next);
            int tideThen = w.tides.latestAt(ten);
            place = next == BEYOND ? NONE : next;
            if (next == BEYOND) endAs(CLEARED, tideThen, w.isDarkAt(ten));
            else if (ground == BEACH) endAs(BEACHED, tideThen, w.isDarkAt(ten));
            else if (ground == LAND || ground + tideThen < w.draft) endAs(STRUCK, tideThen, w.isDarkAt(ten));
        }

        private void endAs(int how, int tideThen, boolean darkThen) {
            kind = how;
            endedTide = tideThen;
            endedDark = darkThen;
        }

        private void leak(World w) {
            water = Math.max(0, water + w.leak - w.crew / 10);
            if (water >= FULL_OF_WATER) {
                water = FULL_OF_WATER;
                endAs(SUNK, tideIn(w), w.isDarkAt(ten));
            }
        }

        private void settleKind(World w, int pace) {
            kind = pace > 0 && apart(heading, windIn(w)) < 2 ? GAINING : LOSING;
        }
    }

    /** The least moves by which she clears in steady wind, from each cell and each stand of the count of three. */
    private static final class Escape {
        private static final int COUNTED = 3;
        private final int[] moves = new int[MOST_CELLS * COUNTED];

        int movesFrom(int cell) {
            return cell >= 0 && cell < MOST_CELLS ? valueAt(moves, cell) : NONE;
        }

        /** Round by round: in round k those are marked that need just k moves. */
        void reckon(World w, int windDirection) {
            for (int s = 0; s < moves.length; s++) moves[s] = NONE;
            boolean more = true;
            for (int k = 1; k <= moves.length && more; k++) more = markRound(w, windDirection, k);
        }

        private boolean markRound(World w, int windDirection, int k) {
            boolean marked = false;
            for (int s = 0; s < moves.length; s++) {
                if (moves[s] == NONE && isOneMoveBefore(w, windDirection, s, k - 1)) {
                    moves[s] = k;
                    marked = true;
                }
            }
            return marked;
        }

        private boolean isOneMoveBefore(World w, int windDirection, int state, int left) {
            int cell = state % MOST_CELLS;
            int behind = state / MOST_CELLS;
            if (!w.floatsAt(cell)) return false;
            for (int d = 0; d < DIRECTIONS; d++) {
                if (apart(d, windDirection) >= w.near
                        && leftBehindMove(w, windDirection, cell, behind, d) == left) return true;
            }
            return false;
        }

        /** How many moves are left behind a move: 0 beyond the bay, NONE where she can not be or that is not yet known. */
        private int leftBehindMove(World w, int windDirection, int cell, int behind, int d) {
            int next = w.chart.beside(cell, d);
            if (next == BEYOND) return 0;
            if (!w.floatsAt(next)) return NONE;
            if (behind == COUNTED - 1) {
                next = w.chart.beside(next, leeOf(windDirection));
                if (next == BEYOND) return 0;
                if (!w.floatsAt(next)) return NONE;
            }
            return valueAt(moves, (behind + 1) % COUNTED * MOST_CELLS + next);
        }
    }

    /** The log told and not yet judged. */
    private static final class LogBook {
        private final int[] places = new int[LOG_ROOM];
        private int told = 0;

        boolean isFull() {
            return told >= LOG_ROOM;
        }

        int tell(int cell) {
            if (told >= 0 && told < places.length) {
                places[told] = cell;
                told++;
            }
            return told;
        }

        int firstWrong(World w, Ship mind) {
            for (int i = 0; i < told; i++) {
                mind.passTen(w);
                int place = mind.place == NONE ? NO_CELL_IN_LOG : mind.place;
                if (valueAt(places, i) != place) return i;
            }
            return NONE;
        }
    }
}
