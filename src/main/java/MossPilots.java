/**
 * A marsh of 6 times 6 cells, tufts of moss that wander in it, the people who sit there, the ways
 * over it, and sheets of numbers beside it. Every call answers with a number; those below 0 are
 * the constants, the faults of a text, or a pull.
 */
public final class MossPilots {
    public static final int BAD = -1, NOT = -2, FULL = -3, NONE = -4, NULL = -11, CAST = -12, INDEX = -13, SIZE = -14;

    private static final int SIDE = 6;
    private static final int CELLS = 36;
    private static final int MOST_TUFTS = 6;
    private static final int MOST_PEOPLE = 6;
    private static final int KINDS = 4;
    private static final int HEAVY = 1;
    private static final int FIDGET = 2;
    private static final int STRANGER = 3;
    private static final int MOST_HOURS = 99;
    private static final int MOST_FROST = 9;
    private static final int MOST_YEARS = 9999;
    private static final int SLACK = 3;
    private static final int NO_WAY = 99;
    private static final int SHEETS = 4;
    private static final int LANES = 3;
    private static final int BYTES = 0;
    private static final int INTS = 1;
    private static final int MOST_ITEMS = 16;
    private static final int TAPE_ROOM = 60;
    private static final int FAULT = -20;
    private static final int PULL_FAULT = -1000;

    private static final long ALL = (1L << CELLS) - 1;
    private static final long FIRST_COLUMN = 0x041041041L;
    private static final long LAST_COLUMN = FIRST_COLUMN << (SIDE - 1);

    private final Tape tape = new Tape();
    private final World now = new World();
    private final World kept = new World();
    private boolean hasImage;
    private final Forecast forecast = new Forecast();
    private final Duel duel = new Duel();
    private final Costs costs = new Costs();
    private final Sheet[] sheets = {new Sheet(), new Sheet(), new Sheet(), new Sheet()};

    public MossPilots() {
    }

    // ---- 1 cells, moss, people

    public int type(long w, int n) {
        if (n < 1 || n > 8 || !Tape.canTake(w, n)) {
            return BAD;
        }
        return tape.append(w, n);
    }

    public int marsh() {
        int read = tape.read();
        tape.clear();
        if (read < 0) {
            return read;
        }
        now.ground.lay(tape.firm, tape.cellOf, read);
        now.crowd.rise();
        return read;
    }

    public int drain(int cell, boolean firm) {
        if (!isCell(cell)) {
            return BAD;
        }
        Ground ground = now.ground;
        int was = ground.isFirm(cell) ? 1 : 0;
        ground.firm = firm ? ground.firm | bit(cell) : ground.firm & ~bit(cell);
        return was;
    }

    public int tuft(int cell) {
        if (!isCell(cell)) {
            return BAD;
        }
        Ground ground = now.ground;
        if (ground.tufts >= MOST_TUFTS) {
            return FULL;
        }
        int tuft = ground.tufts;
        ground.cellOf[tuft] = cell;
        ground.tufts = tuft + 1;
        return tuft;
    }

    public int plant(int tuft, int cell) {
        if (!isTuft(tuft) || !isCell(cell)) {
            return BAD;
        }
        int was = now.ground.cellOf[tuft];
        now.ground.cellOf[tuft] = cell;
        return was;
    }

    public int person(int kind) {
        if (!isBelow(kind, KINDS)) {
            return BAD;
        }
        Crowd crowd = now.crowd;
        if (crowd.size >= MOST_PEOPLE) {
            return FULL;
        }
        return crowd.add(kind);
    }

    public int sit(int person, int cell, int hours) {
        if (!isPerson(person) || !isCell(cell) || !isBelow(hours, MOST_HOURS + 1)) {
            return BAD;
        }
        int was = now.crowd.hours[person];
        now.crowd.seat(person, cell, hours);
        return was;
    }

    public int told(int person, int what) {
        if (!isPerson(person)) {
            return BAD;
        }
        Crowd crowd = now.crowd;
        switch (what) {
            case 0:
                return crowd.kind[person];
            case 1:
                return crowd.sits(person) ? crowd.cell[person] : NONE;
            case 2:
                return crowd.hours[person];
            case 3:
                return crowd.aches[person];
            default:
                return BAD;
        }
    }

    public int of(int cell, int what) {
        if (!isCell(cell)) {
            return BAD;
        }
        Ground ground = now.ground;
        switch (what) {
            case 0:
                return ground.isFirm(cell) ? 1 : 0;
            case 1:
                return ground.tuftsIn(cell);
            case 2:
                return (ground.walkable() & bit(cell)) != 0 ? 1 : 0;
            case 3:
                return now.crowd.weightIn(cell);
            default:
                return BAD;
        }
    }

    public int frost(int years) {
        if (!isBelow(years, MOST_FROST + 1)) {
            return BAD;
        }
        int was = now.ground.frost;
        now.ground.frost = years;
        return was;
    }

    public int count(int what) {
        switch (what) {
            case 0:
                return now.ground.tufts;
            case 1:
                return now.crowd.size;
            case 2:
                return Long.bitCount(now.ground.firm);
            case 3:
                return now.years;
            case 4:
                return now.ground.frost;
            case 5:
                return now.crowd.aching();
            default:
                return BAD;
        }
    }

    // ---- 2 years, ways

    public int moss(int tuft) {
        return isTuft(tuft) ? now.ground.cellOf[tuft] : BAD;
    }

    public int pull(int cell, int tuft) {
        if (!isCell(cell) || !isTuft(tuft)) {
            return PULL_FAULT + BAD;
        }
        if (!now.crowd.isSeat(cell)) {
            return PULL_FAULT + NOT;
        }
        return now.crowd.weightIn(cell) - SLACK * apart(cell, now.ground.cellOf[tuft]);
    }

    public int year() {
        if (now.years >= MOST_YEARS) {
            return FULL;
        }
        return now.pass(forecast.seats);
    }

    public int way(int a, int b) {
        if (!isCell(a) || !isCell(b)) {
            return BAD;
        }
        return steps(now.ground.walkable(), a, b);
    }

    public int route(int a, int b, int i) {
        if (!isCell(a) || !isCell(b) || i < -1 || i > CELLS - 2) {
            return BAD;
        }
        costs.measure(now.ground, b);
        if (!costs.reaches(a)) {
            return NONE;
        }
        return i < 0 ? costs.toGoal[a] : costs.stop(a, i);
    }

    public int parts() {
        long left = now.ground.walkable();
        int parts = 0;
        for (int cell = 0; cell < CELLS; cell++) {
            if ((left & bit(cell)) != 0) {
                left &= ~joined(left, cell);
                parts++;
            }
        }
        return parts;
    }

    // ---- 3 who must sit where

    public int least(int person, int a, int b, int what) {
        if (!isPerson(person) || !isCell(a) || !isCell(b) || !isBelow(what, 2)) {
            return BAD;
        }
        int found = fewestHours(person, a, b);
        if (found < 0) {
            return NONE;
        }
        return what == 0 ? found / CELLS : found % CELLS;
    }

    public int game(int one, int other, int hoursOne, int hoursOther, int a, int b, int what) {
        if (!isPerson(one) || !isPerson(other) || one == other || !isStay(hoursOne) || !isStay(hoursOther)
                || !isCell(a) || !isCell(b) || !isBelow(what, 2)) {
            return BAD;
        }
        forecast.begin(now);
        for (int cellOne = 0; cellOne < CELLS; cellOne++) {
            forecast.crowd.seat(one, cellOne, hoursOne);
            for (int cellOther = 0; cellOther < CELLS; cellOther++) {
                forecast.crowd.seat(other, cellOther, hoursOther);
                int steps = forecast.stepsThen(now, a, b);
                duel.steps[cellOne * CELLS + cellOther] = steps < 0 ? NO_WAY : steps;
            }
        }
        duel.weigh();
        return what == 0 ? duel.rests() : duel.firstRest();
    }

    public int pilots(int a, int b) {
        if (!isCell(a) || !isCell(b)) {
            return BAD;
        }
        Ground ground = now.ground;
        if (steps(ground.walkable(), a, b) < 0) {
            return NONE;
        }
        int pilots = 0;
        for (int tuft = 0; tuft < ground.tufts; tuft++) {
            if (steps(ground.walkableWithout(tuft), a, b) < 0) {
                pilots |= 1 << tuft;
            }
        }
        return pilots;
    }

    public int image() {
        kept.become(now);
        hasImage = true;
        return 1;
    }

    public int restore() {
        if (!hasImage) {
            return NONE;
        }
        now.become(kept);
        return 1;
    }

    // ---- 4 sheets

    public long sat(int person, int hours, int sheet, int lane, int i) {
        if (!isPerson(person) || !isStay(hours) || !isBelow(sheet, SHEETS) || !isBelow(lane, LANES)) {
            return BAD;
        }
        int refusal = sheets[sheet].refusal(lane, i, now.ground.tufts);
        if (refusal != 0) {
            return refusal;
        }
        long can = 0;
        forecast.begin(now);
        for (int cell = 0; cell < CELLS; cell++) {
            forecast.crowd.seat(person, cell, hours);
            forecast.look(now);
            if (sheets[sheet].tells(i, forecast.ground)) {
                can |= bit(cell);
            }
        }
        return can;
    }

    public int film(int sheet, int lane, int i) {
        if (!isBelow(sheet, SHEETS) || !isBelow(lane, LANES)) {
            return BAD;
        }
        Ground ground = now.ground;
        int refusal = sheets[sheet].refusal(lane, i, ground.tufts);
        if (refusal != 0) {
            return refusal;
        }
        for (int tuft = 0; tuft < ground.tufts; tuft++) {
            sheets[sheet].items[i + tuft] = ground.cellOf[tuft];
        }
        return ground.tufts;
    }

    public int sheet(int sheet, int lane, int n) {
        if (!isBelow(sheet, SHEETS) || !isBelow(lane, LANES) || n > MOST_ITEMS) {
            return BAD;
        }
        if (n < 0) {
            return SIZE;
        }
        sheets[sheet].start(lane, n);
        return n;
    }

    public int drop(int sheet) {
        if (!isBelow(sheet, SHEETS)) {
            return BAD;
        }
        if (!sheets[sheet].held) {
            return NULL;
        }
        sheets[sheet].held = false;
        return sheets[sheet].size;
    }

    public int item(int sheet, int lane, int i, long v) {
        if (!isBelow(sheet, SHEETS) || !isBelow(lane, LANES)) {
            return BAD;
        }
        int refusal = sheets[sheet].refusal(lane, i, 1);
        if (refusal != 0) {
            return refusal;
        }
        sheets[sheet].put(i, v);
        return 1;
    }

    public int copy(int from, int i, int to, int j, int n) {
        if (!isBelow(from, SHEETS) || !isBelow(to, SHEETS)) {
            return BAD;
        }
        Sheet source = sheets[from];
        Sheet target = sheets[to];
        if (!source.held || !target.held) {
            return NULL;
        }
        if (source.lane != target.lane) {
            return CAST;
        }
        if (!source.spans(i, n) || !target.spans(j, n)) {
            return INDEX;
        }
        System.arraycopy(source.items, i, target.items, j, n);
        return n;
    }

    // ---- what is a number as told

    private static boolean isBelow(int number, int bound) {
        return number >= 0 && number < bound;
    }

    private static boolean isCell(int cell) {
        return isBelow(cell, CELLS);
    }

    private static boolean isStay(int hours) {
        return hours >= 1 && hours <= MOST_HOURS;
    }

    private boolean isTuft(int tuft) {
        return isBelow(tuft, now.ground.tufts);
    }

    private boolean isPerson(int person) {
        return isBelow(person, now.crowd.size);
    }

    // ---- cells and sets of cells

    private static long bit(int cell) {
        return 1L << cell;
    }

    private static int apart(int a, int b) {
        int rows = a / SIDE - b / SIDE;
        int columns = a % SIDE - b % SIDE;
        return (rows < 0 ? -rows : rows) + (columns < 0 ? -columns : columns);
    }

    /** The cells beside those of a set. */
    private static long beside(long set) {
        long rows = set << SIDE | set >>> SIDE;
        long columns = (set & ~LAST_COLUMN) << 1 | (set & ~FIRST_COLUMN) >>> 1;
        return (rows | columns) & ALL;
    }

    /** The cell at one of the four sides, these in the order of the cells; -1 at the edge. */
    private static int neighbour(int cell, int side) {
        switch (side) {
            case 0:
                return cell >= SIDE ? cell - SIDE : -1;
            case 1:
                return cell % SIDE > 0 ? cell - 1 : -1;
            case 2:
                return cell % SIDE < SIDE - 1 ? cell + 1 : -1;
            default:
                return cell < CELLS - SIDE ? cell + SIDE : -1;
        }
    }

    private static int steps(long walkable, int a, int b) {
        if ((walkable & bit(b)) == 0) {
            return NONE;
        }
        long seen = bit(a) & walkable;
        for (int steps = 0; steps < CELLS; steps++) {
            if ((seen & bit(b)) != 0) {
                return steps;
            }
            long wider = seen | beside(seen) & walkable;
            if (wider == seen) {
                return NONE;
            }
            seen = wider;
        }
        return NONE;
    }

    /** All of a set that hangs together with one cell of it. */
    private static long joined(long set, int cell) {
        long seen = bit(cell);
        for (int steps = 0; steps < CELLS; steps++) {
            seen |= beside(seen) & set;
        }
        return seen;
    }

    /** The least hours times CELLS, plus the least cell for them; NONE. */
    private int fewestHours(int person, int a, int b) {
        forecast.begin(now);
        forecast.crowd.seat(person, 0, 0);
        if (forecast.stepsThen(now, a, b) >= 0) {
            return 0;
        }
        for (int hours = 1; hours <= MOST_HOURS; hours++) {
            for (int cell = 0; cell < CELLS; cell++) {
                forecast.crowd.seat(person, cell, hours);
                if (forecast.stepsThen(now, a, b) >= 0) {
                    return hours * CELLS + cell;
                }
            }
        }
        return NONE;
    }

    /** Bytes that wait to be read as a marsh, and what the last reading found. */
    private static final class Tape {
        final byte[] bytes = new byte[TAPE_ROOM];
        int size;
        long firm;
        final int[] cellOf = new int[MOST_TUFTS];
        private int tufts;

        static boolean canTake(long w, int n) {
            for (int k = 0; k < n; k++) {
                long sign = w >>> 8 * k & 255;
                if (sign < ' ' || sign > '~') {
                    return false;
                }
            }
            return true;
        }

        int append(long w, int n) {
            if (n > TAPE_ROOM - size) {
                return FULL;
            }
            for (int k = n - 1; k >= 0; k--) {
                bytes[size] = (byte) (w >>> 8 * k);
                size++;
            }
            return size;
        }

        void clear() {
            size = 0;
        }

        /** How many tufts the text has, or its fault. */
        int read() {
            firm = 0;
            tufts = 0;
            int place = 0;
            for (int k = 0; k < size; k++) {
                if (bytes[k] == ' ') {
                    continue;
                }
                if (!takes(place, bytes[k])) {
                    return FAULT - k;
                }
                place++;
            }
            return place < CELLS + SIDE - 1 ? FAULT - size : tufts;
        }

        private boolean takes(int place, byte sign) {
            int row = place / (SIDE + 1);
            int column = place % (SIDE + 1);
            if (row >= SIDE || row == SIDE - 1 && column == SIDE) {
                return false;
            }
            return column == SIDE ? sign == '/' : takesCell(row * SIDE + column, sign);
        }

        private boolean takesCell(int cell, byte sign) {
            switch (sign) {
                case '.':
                    return true;
                case '#':
                    firm |= bit(cell);
                    return true;
                case 'm':
                    return takesTuft(cell);
                default:
                    return false;
            }
        }

        private boolean takesTuft(int cell) {
            if (tufts >= MOST_TUFTS) {
                return false;
            }
            cellOf[tufts] = cell;
            tufts++;
            return true;
        }
    }

    /** Firm cells, tufts and frost: all that says where one can walk. */
    private static final class Ground {
        long firm;
        int tufts;
        int frost;
        final int[] cellOf = new int[MOST_TUFTS];

        void become(Ground other) {
            lay(other.firm, other.cellOf, other.tufts);
            frost = other.frost;
        }

        void lay(long firmCells, int[] tuftCells, int howMany) {
            firm = firmCells;
            tufts = howMany;
            for (int tuft = 0; tuft < howMany; tuft++) {
                cellOf[tuft] = tuftCells[tuft];
            }
        }

        boolean isFirm(int cell) {
            return (firm & bit(cell)) != 0;
        }

        int tuftsIn(int cell) {
            int found = 0;
            for (int tuft = 0; tuft < tufts; tuft++) {
                if (cellOf[tuft] == cell) {
                    found++;
                }
            }
            return found;
        }

        long walkable() {
            return walkableWithout(-1);
        }

        long walkableWithout(int missing) {
            if (frost > 0) {
                return ALL;
            }
            long cells = firm;
            for (int tuft = 0; tuft < tufts; tuft++) {
                if (tuft != missing) {
                    cells |= bit(cellOf[tuft]);
                }
            }
            return cells;
        }

        /** A year as far as the ground feels it: how many tufts go. */
        int pass(Crowd crowd, Seats seats) {
            seats.gather(crowd);
            int gone = 0;
            for (int tuft = 0; tuft < tufts && frost == 0; tuft++) {
                int from = cellOf[tuft];
                int goal = seats.goal(from);
                if (goal != from) {
                    cellOf[tuft] = oneCell(from, goal);
                    gone++;
                }
            }
            firm |= crowd.strangerCells();
            frost = Math.max(frost - 1, 0);
            return gone;
        }

        private static int oneCell(int from, int goal) {
            int step = from / SIDE != goal / SIDE ? SIDE : 1;
            return goal > from ? from + step : from - step;
        }
    }

    /** The people: who they are, where they sit for how long, and their aches. */
    private static final class Crowd {
        int size;
        final int[] kind = new int[MOST_PEOPLE];
        final int[] cell = new int[MOST_PEOPLE];
        final int[] hours = new int[MOST_PEOPLE];
        final int[] aches = new int[MOST_PEOPLE];

        void become(Crowd other) {
            size = other.size;
            for (int person = 0; person < size; person++) {
                kind[person] = other.kind[person];
                cell[person] = other.cell[person];
                hours[person] = other.hours[person];
                aches[person] = other.aches[person];
            }
        }

        int add(int newKind) {
            int person = size;
            kind[person] = newKind;
            seat(person, 0, 0);
            aches[person] = 0;
            size++;
            return person;
        }

        void seat(int person, int where, int howLong) {
            cell[person] = where;
            hours[person] = howLong;
        }

        void rise() {
            for (int person = 0; person < size; person++) {
                hours[person] = 0;
            }
        }

        boolean sits(int person) {
            return hours[person] > 0;
        }

        int weight(int person) {
            switch (kind[person]) {
                case HEAVY:
                case STRANGER:
                    return 2 * hours[person];
                case FIDGET:
                    return hours[person] / 2;
                default:
                    return hours[person];
            }
        }

        boolean isSeat(int where) {
            for (int person = 0; person < size; person++) {
                if (sits(person) && cell[person] == where) {
                    return true;
                }
            }
            return false;
        }

        int weightIn(int where) {
            int sum = 0;
            for (int person = 0; person < size; person++) {
                if (sits(person) && cell[person] == where) {
                    sum += weight(person);
                }
            }
            return sum;
        }

        long strangerCells() {
            long cells = 0;
            for (int person = 0; person < size; person++) {
                if (sits(person) && kind[person] == STRANGER) {
                    cells |= bit(cell[person]);
                }
            }
            return cells;
        }

        void ache(long firm) {
            for (int person = 0; person < size; person++) {
                if (sits(person) && (firm & bit(cell[person])) == 0) {
                    aches[person]++;
                }
            }
        }

        int aching() {
            int set = 0;
            for (int person = 0; person < size; person++) {
                if (aches[person] > 0) {
                    set |= 1 << person;
                }
            }
            return set;
        }
    }

    /** The cells in which people sit, each once, with what they count together. */
    private static final class Seats {
        private int size;
        private final int[] cell = new int[MOST_PEOPLE];
        private final int[] weight = new int[MOST_PEOPLE];

        void gather(Crowd crowd) {
            size = 0;
            for (int person = 0; person < crowd.size; person++) {
                if (crowd.sits(person)) {
                    add(crowd.cell[person], crowd.weight(person));
                }
            }
        }

        private void add(int where, int more) {
            for (int seat = 0; seat < size; seat++) {
                if (cell[seat] == where) {
                    weight[seat] += more;
                    return;
                }
            }
            cell[size] = where;
            weight[size] = more;
            size++;
        }

        /** The seat to which a tuft in a cell is drawn; the cell itself, if the tuft stays. */
        int goal(int from) {
            int most = 0;
            int goal = from;
            for (int seat = 0; seat < size; seat++) {
                int pull = weight[seat] - SLACK * apart(cell[seat], from);
                if (pull > most) {
                    most = pull;
                    goal = cell[seat];
                } else if (pull == most) {
                    goal = from;
                }
            }
            return goal;
        }
    }

    /** All that an image keeps. */
    private static final class World {
        final Ground ground = new Ground();
        final Crowd crowd = new Crowd();
        int years;

        void become(World other) {
            ground.become(other.ground);
            crowd.become(other.crowd);
            years = other.years;
        }

        int pass(Seats seats) {
            // Aches ask for the ground as the year begins, so they come ahead of the strangers' draining.
            crowd.ache(ground.firm);
            int gone = ground.pass(crowd, seats);
            crowd.rise();
            years++;
            return gone;
        }
    }

    /** What the ground would be behind this year, if some sat otherwise. */
    private static final class Forecast {
        final Ground ground = new Ground();
        final Crowd crowd = new Crowd();
        final Seats seats = new Seats();
        // Most trials of a search end on a ground already seen, so the last answer is kept.
        private long lastWalkable = -1;
        private int lastA;
        private int lastB;
        private int lastSteps;

        void begin(World world) {
            crowd.become(world.crowd);
        }

        void look(World world) {
            ground.become(world.ground);
            ground.pass(crowd, seats);
        }

        int stepsThen(World world, int a, int b) {
            look(world);
            long walkable = ground.walkable();
            if (walkable != lastWalkable || a != lastA || b != lastB) {
                lastWalkable = walkable;
                lastA = a;
                lastB = b;
                lastSteps = steps(walkable, a, b);
            }
            return lastSteps;
        }
    }

    /** The steps for each pair of cells in which the two of a game sit. */
    private static final class Duel {
        final int[] steps = new int[CELLS * CELLS];
        private final int[] fewest = new int[CELLS];
        private final int[] most = new int[CELLS];

        /** Finds the best that each can have against each cell of the other. */
        void weigh() {
            for (int cell = 0; cell < CELLS; cell++) {
                fewest[cell] = NO_WAY;
                most[cell] = 0;
            }
            for (int one = 0; one < CELLS; one++) {
                for (int other = 0; other < CELLS; other++) {
                    int here = steps[one * CELLS + other];
                    fewest[other] = Math.min(fewest[other], here);
                    most[one] = Math.max(most[one], here);
                }
            }
        }

        private boolean rest(int one, int other) {
            int here = steps[one * CELLS + other];
            return here == fewest[other] && here == most[one];
        }

        int rests() {
            int found = 0;
            for (int one = 0; one < CELLS; one++) {
                for (int other = 0; other < CELLS; other++) {
                    if (rest(one, other)) {
                        found++;
                    }
                }
            }
            return found;
        }

        int firstRest() {
            for (int one = 0; one < CELLS; one++) {
                for (int other = 0; other < CELLS; other++) {
                    if (rest(one, other)) {
                        return 100 * one + other;
                    }
                }
            }
            return NONE;
        }
    }

    /** The least cost from every cell to one goal. */
    private static final class Costs {
        private static final int NEVER = 1000;
        final int[] toGoal = new int[CELLS];
        private long walkable;
        private long cheap;

        void measure(Ground ground, int goal) {
            walkable = ground.walkable();
            cheap = ground.frost > 0 ? ALL : ground.firm;
            for (int cell = 0; cell < CELLS; cell++) {
                toGoal[cell] = NEVER;
            }
            if (canWalk(goal)) {
                toGoal[goal] = 0;
            }
            boolean better = true;
            // No route has more cells than there are, so so many rounds are enough.
            for (int round = 0; round < CELLS && better; round++) {
                better = improve();
            }
        }

        private boolean improve() {
            boolean better = false;
            for (int cell = 0; cell < CELLS; cell++) {
                for (int side = 0; side < 4; side++) {
                    int over = canWalk(cell) ? costOver(neighbour(cell, side)) : NEVER;
                    if (over < toGoal[cell]) {
                        toGoal[cell] = over;
                        better = true;
                    }
                }
            }
            return better;
        }

        boolean reaches(int cell) {
            return toGoal[cell] < NEVER;
        }

        private boolean canWalk(int cell) {
            return (walkable & bit(cell)) != 0;
        }

        /** What a route to the goal costs whose next cell is this one (-1: the edge). */
        private int costOver(int next) {
            if (next < 0 || !canWalk(next)) {
                return NEVER;
            }
            return toGoal[next] + ((cheap & bit(next)) != 0 ? 1 : 2);
        }

        /** The i-th cell behind the first one on the way to the goal; NONE. */
        int stop(int first, int i) {
            int at = first;
            for (int k = 0; k <= i && at >= 0; k++) {
                at = nextStop(at);
            }
            return at;
        }

        private int nextStop(int at) {
            if (toGoal[at] == 0) {
                return NONE;
            }
            for (int side = 0; side < 4; side++) {
                int next = neighbour(at, side);
                if (costOver(next) == toGoal[at]) {
                    return next;
                }
            }
            return NONE;
        }
    }

    /** Nothing, or a row of a lane. */
    private static final class Sheet {
        boolean held;
        int lane;
        int size;
        // One row for every lane: what an item is cut to is seen to where it is put.
        final long[] items = new long[MOST_ITEMS];

        void start(int newLane, int n) {
            held = true;
            lane = newLane;
            size = n;
            for (int k = 0; k < n; k++) {
                items[k] = 0;
            }
        }

        boolean spans(int from, int n) {
            return from >= 0 && n >= 0 && from <= size && n <= size - from;
        }

        /** What taking n items of a lane is answered with; 0: they can be taken. */
        int refusal(int asLane, int from, int n) {
            if (!held) {
                return NULL;
            }
            if (lane != asLane) {
                return CAST;
            }
            return spans(from, n) ? 0 : INDEX;
        }

        void put(int place, long v) {
            items[place] = lane == BYTES ? (byte) v : lane == INTS ? (int) v : v;
        }

        boolean tells(int from, Ground ground) {
            for (int tuft = 0; tuft < ground.tufts; tuft++) {
                if (items[from + tuft] != ground.cellOf[tuft]) {
                    return false;
                }
            }
            return true;
        }
    }
}
