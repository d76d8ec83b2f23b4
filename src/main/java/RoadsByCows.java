import java.util.Arrays;
import java.util.NoSuchElementException;

/**
 * Roads by cows: a meadow of at most 8 by 8 cells, herds that go over it hour by hour where it
 * pleases them, and the road, which by law is where cows went last.
 *
 * <p>All rows that calls need are made with the object and used again: no call but a throwing one
 * makes an object.
 */
public final class RoadsByCows {
    public static final int NONE = -1;

    private static final int CANNOT = -2;
    private static final int MISSING = -3;
    private static final int NOT_BY_ROAD = -100;

    private static final int SIDE = 8;
    private static final int CELLS = 64;
    private static final int MOST_HERDS = 6;
    private static final int MOST_GATES = 6;
    private static final int MOST_ON_A_CELL = 9;
    private static final int MOST_WAYS = 1000000;
    private static final int MILLION = 1000000;

    private static final int TOLD_SIGNS = 76;
    private static final int RULE_SIGNS = 40;
    private static final int DAY_SIGNS = 60;
    private static final int SEEN_CELLS = 12;

    private static final int LOOKS_ON = 100;
    private static final int HOURS_AT_ONCE = 60;
    private static final int LOST_HOURS = 40;
    private static final int WAY_STEPS = 20;
    private static final int MOST_KEEPS = 99;
    private static final int MOST_GROWS = 99;
    private static final int KEPT_PLACES = 2;

    private static final String PLAIN_RULE = "g*2+s*5-t*3-r";

    private final Text text = new Text();
    private final Row told = new Row();
    private final Ground ground = new Ground();
    private final Rule pleasing = new Rule();
    private final Walk walk = new Walk(ground, pleasing);
    private final State present = new State();
    private final State before = new State();
    private final Foresight foresight = new Foresight(present, ground, walk);
    private final Trails trails = new Trails();
    private final Past past = new Past();
    private final State[] kept = new State[KEPT_PLACES];
    private int keptPlaces;
    private boolean snowed;
    private long snowRoad;

    public RoadsByCows() {
        for (int i = 0; i < KEPT_PLACES; i++) {
            kept[i] = new State();
        }
        text.tell(PLAIN_RULE);
        pleasing.learn(text);
        text.empty();
    }

    // ---- the meadow, the herds

    public int sign(int v) {
        return text.append(v) ? text.length : NONE;
    }

    public boolean end(int n) {
        if (n < 0 || n > text.length) {
            return false;
        }
        text.length = n;
        return true;
    }

    public int meadow() {
        int fault = ground.faultIn(text);
        if (fault == 0) {
            ground.lay(text, present);
            past.forget();
            keptPlaces = 0;
            snowed = false;
        }
        text.empty();
        return fault == 0 ? ground.columns * ground.rows : fault;
    }

    public int herds() {
        int answer = readHerds();
        if (answer > 0) {
            present.copyFrom(before);
            past.forget();
            keptPlaces = 0;
        }
        text.empty();
        return answer;
    }

    public int rule() {
        if (text.length == 0) {
            text.tell(PLAIN_RULE);
        }
        int answer = pleasing.learn(text);
        text.empty();
        return answer;
    }

    public int cell(int cell, int what) throws NoSuchElementException {
        if (!ground.isThere(cell) || what < 0 || what > 7) {
            throw new NoSuchElementException("no such cell, or nothing such of it");
        }
        switch (what) {
            case 0:
                return present.grass[cell];
            case 1:
                return present.salt[cell];
            case 2:
                return present.thistles[cell];
            case 3:
                return ground.kindOf(cell, present.open);
            case 4:
                return present.last[cell];
            case 5:
                return present.lastBy[cell];
            case 6:
                return present.isRoad(cell, walk.keeps) ? 1 : 0;
            default:
                return present.herdsAt(cell);
        }
    }

    public int herd(int herd, int what) throws NoSuchElementException {
        if (!present.hasHerd(herd) || what < 0 || what > 4) {
            throw new NoSuchElementException("no such herd, or nothing such of it");
        }
        switch (what) {
            case 0:
                return present.at[herd];
            case 1:
                return present.greed[herd];
            case 2:
                return present.slow >> herd & 1;
            case 3:
                return present.lying >> herd & 1;
            default:
                return walk.choose(present, herd, ground.openTo(present.open));
        }
    }

    public int set(int what, int v) {
        int was = NONE;
        if (what == 0 && v >= 0 && v <= MOST_KEEPS) {
            was = walk.keeps;
            walk.keeps = v;
        } else if (what == 1 && v >= 1 && v <= MOST_GROWS) {
            was = walk.grows;
            walk.grows = v;
        }
        return was;
    }

    public int sheet(int kind, int n, int f, int step) {
        if (kind < 0 || kind > 3 || n > MOST_HERDS) {
            return NONE;
        }
        if (kind != 3 && n < 0) {
            return CANNOT;
        }
        int sum = 0;
        for (int herd = 0; herd < present.herdCount; herd++) {
            boolean isTold = kind != 3 && herd < n;
            present.greed[herd] = isTold ? greedOf(kind, f + herd * step) : 0;
            sum += present.greed[herd];
        }
        return kind == 3 ? MISSING : sum;
    }

    private static int greedOf(int kind, int entry) {
        int value = entry;
        if (kind == 0) {
            value = (byte) entry;
        } else if (kind == 1) {
            value = (short) entry;
        }
        return Math.max(0, Math.min(9, value));
    }

    /** Reads THE TEXT into the state 'before', which is the present with the herds that are told. */
    private int readHerds() {
        text.begin(TOLD_SIGNS);
        if (text.isAtEnd()) {
            return 0;
        }
        before.copyFrom(present);
        for (int line = 1; line <= MOST_HERDS; line++) {
            if (!readHerd()) {
                return text.fault();
            }
            if (text.isAtEnd()) {
                return line;
            }
            if (!text.take(';')) {
                return text.fault();
            }
        }
        return text.fault();
    }

    private boolean readHerd() {
        if (before.herdCount >= MOST_HERDS) {
            return false;
        }
        int cell = readCell(ground.columns, ground.rows);
        if (cell == NONE) {
            return false;
        }
        if (!ground.isPlain(cell)) {
            text.stepBack();
            return false;
        }
        int greed = text.digit(0, 9);
        if (greed == NONE) {
            return false;
        }
        before.addHerd(cell, greed, text.take('*'));
        return true;
    }

    private int readCell(int columns, int rows) {
        int x = text.column(columns);
        if (x == NONE) {
            return NONE;
        }
        int row = text.digit(1, rows);
        return row == NONE ? NONE : SIDE * (row - 1) + x;
    }

    // ---- hours

    public int salt(int cell, int v) {
        before.copyFrom(present);
        return remembered(lay(present.salt, cell, v));
    }

    public int thistles(int cell, int v) {
        before.copyFrom(present);
        return remembered(lay(present.thistles, cell, v));
    }

    public int gate(int gate, int v) {
        before.copyFrom(present);
        return remembered(turn(gate, v));
    }

    public int drive(int herd, int cell) {
        before.copyFrom(present);
        return remembered(chase(herd, cell));
    }

    public int hour() {
        before.copyFrom(present);
        int moved = walk.pass(present);
        tellPlaces(present);
        return remembered(moved);
    }

    public int hours(int n) {
        if (n < 0 || n > HOURS_AT_ONCE) {
            return NONE;
        }
        before.copyFrom(present);
        int moved = walk.passMany(present, n);
        tellPlaces(present);
        return n == 0 ? moved : remembered(moved);
    }

    public int day() {
        int fault = faultOfDay();
        if (fault != 0) {
            text.empty();
            return fault;
        }
        before.copyFrom(present);
        text.begin(DAY_SIGNS);
        int done = 0;
        int moved = 0;
        boolean stuck = false;
        for (int act = 0; act < DAY_SIGNS && !stuck && !text.isAtEnd(); act++) {
            int moves = perform(readAct());
            stuck = moves < 0;
            if (!stuck) {
                done++;
                moved += moves;
                text.take(';');
            }
        }
        if (done > 0) {
            past.add(before);
        }
        text.empty();
        told.start();
        told.put(stuck ? 1 : 0);
        told.put(moved);
        return done;
    }

    public int undo() {
        return past.bringBack(present) ? past.size : NONE;
    }

    /** What was done can be undone: the state 'before' must be as ahead of it. */
    private int remembered(int answer) {
        if (answer >= 0) {
            past.add(before);
        }
        return answer;
    }

    private void tellPlaces(State state) {
        told.start();
        for (int herd = 0; herd < state.herdCount; herd++) {
            told.put(state.at[herd]);
        }
    }

    private int lay(int[] amounts, int cell, int v) {
        if (!ground.isThere(cell)) {
            return NONE;
        }
        if (!ground.isPlain(cell)) {
            return CANNOT;
        }
        if (v < 0 || v > MOST_ON_A_CELL) {
            return NONE;
        }
        int was = amounts[cell];
        amounts[cell] = v;
        return was;
    }

    private int turn(int gate, int v) {
        if (gate < 0 || gate >= ground.gateCount) {
            return NONE;
        }
        if (present.herdsAt(ground.gateAt[gate]) != 0) {
            return CANNOT;
        }
        if (v != 0 && v != 1) {
            return NONE;
        }
        int was = present.open >> gate & 1;
        present.open = present.open & ~(1 << gate) | v << gate;
        return was;
    }

    private int chase(int herd, int cell) {
        if (!present.hasHerd(herd) || !ground.isThere(cell)) {
            return NONE;
        }
        int was = present.at[herd];
        long within = Board.beside(Board.bit(was)) & ground.openTo(present.open);
        if (!Board.has(within, cell)) {
            return CANNOT;
        }
        present.tread(herd, cell);
        return was;
    }

    private int faultOfDay() {
        text.begin(DAY_SIGNS);
        if (text.isAtEnd()) {
            return 0;
        }
        for (int act = 0; act < DAY_SIGNS; act++) {
            if (readAct() == NONE) {
                return text.fault();
            }
            if (text.isAtEnd()) {
                return 0;
            }
            if (!text.take(';')) {
                return text.fault();
            }
        }
        return text.fault();
    }

    /** An ACT as one number: its letter, a digit, a cell. NONE, at the sign that can't stand. */
    private int readAct() {
        int kind = text.takeOneOf("hstocd");
        int number = 0;
        int cell = 0;
        switch (kind) {
            case 'h':
                number = text.digit(1, 9);
                number = number == NONE ? 1 : number;
                break;
            case 's':
            case 't':
                cell = readCell(SIDE, SIDE);
                number = cell == NONE ? NONE : text.digit(0, 9);
                break;
            case 'o':
            case 'c':
                number = text.digit(0, 9);
                break;
            case 'd':
                number = text.digit(0, 9);
                cell = number == NONE ? NONE : readCell(SIDE, SIDE);
                break;
            default:
                return NONE;
        }
        return number == NONE || cell == NONE ? NONE : kind << 10 | number << 6 | cell;
    }

    /** How often herds moved in it; below 0 if it can't be done. */
    private int perform(int act) {
        int number = act >> 6 & 15;
        int cell = act & 63;
        switch (act >> 10) {
            case 'h':
                return walk.passMany(present, number);
            case 's':
                return Math.min(0, lay(present.salt, cell, number));
            case 't':
                return Math.min(0, lay(present.thistles, cell, number));
            case 'o':
                return Math.min(0, turn(number, 1));
            case 'c':
                return Math.min(0, turn(number, 0));
            case 'd':
                return Math.min(0, chase(number, cell));
            default:
                return NONE;
        }
    }

    // ---- the road as it is

    public int road() {
        long cells = roadNow();
        int pieces = 0;
        int largest = 0;
        long left = cells;
        for (int i = 0; i < CELLS && left != 0; i++) {
            long piece = Board.pieceOf(left, Board.firstOf(left));
            left &= ~piece;
            pieces++;
            largest = Math.max(largest, Long.bitCount(piece));
        }
        told.start();
        told.put(cells);
        told.put(pieces);
        told.put(largest);
        return Long.bitCount(cells);
    }

    public int squares() {
        long cells = roadNow();
        long found = 0;
        for (int cell = 0; cell < CELLS; cell++) {
            long spot = Board.bit(cell);
            if ((cells & spot) != 0 && Long.bitCount(Board.beside(spot) & cells) >= 3) {
                found |= spot;
            }
        }
        told.start();
        told.put(found);
        return Long.bitCount(found);
    }

    public int cart(int from, int to) {
        if (!ground.isThere(from) || !ground.isThere(to)) {
            return NONE;
        }
        long cells = roadNow();
        trails.measure(cells, to);
        int steps = trails.steps[from];
        if (steps == NONE) {
            return CANNOT;
        }
        told.start();
        told.put(from);
        int cell = from;
        for (int left = steps - 1; left >= 0; left--) {
            cell = trails.leastBeside(cell, left);
            told.put(cell);
        }
        return steps;
    }

    public int joined(int herd) {
        if (!present.hasHerd(herd)) {
            return NONE;
        }
        long piece = Board.pieceOf(roadNow(), present.at[herd]);
        if (piece == 0) {
            return CANNOT;
        }
        int found = 0;
        for (int other = 0; other < present.herdCount; other++) {
            if (Board.has(piece, present.at[other])) {
                found |= 1 << other;
            }
        }
        told.start();
        told.put(Long.bitCount(piece));
        return found;
    }

    public int owners() {
        if (present.herdCount == 0) {
            return CANNOT;
        }
        long cells = roadNow();
        int best = 0;
        int most = 0;
        told.start();
        for (int herd = 0; herd < present.herdCount; herd++) {
            int owned = Long.bitCount(cells & present.troddenLastBy(herd));
            told.put(owned);
            if (owned > most) {
                most = owned;
                best = herd;
            }
        }
        return best;
    }

    public int least() {
        for (int keeps = 0; keeps <= MOST_KEEPS; keeps++) {
            int size = present.sizeOfMeeting(keeps);
            if (size > 0) {
                told.start();
                told.put(size);
                return keeps;
            }
        }
        return CANNOT;
    }

    public int furthest(int cell) {
        if (!ground.isThere(cell)) {
            return NONE;
        }
        trails.measure(roadNow(), cell);
        if (trails.steps[cell] == NONE) {
            return CANNOT;
        }
        int best = cell;
        int most = 0;
        for (int other = 0; other < CELLS; other++) {
            if (trails.steps[other] > most) {
                most = trails.steps[other];
                best = other;
            }
        }
        told.start();
        told.put(most);
        return best;
    }

    private long roadNow() {
        return present.roadCells(walk.keeps);
    }

    // ---- hours to come

    public int where(int herd, int n) {
        if (!present.hasHerd(herd) || n < 0 || n > LOOKS_ON) {
            return NONE;
        }
        State then = foresight.lookOn(n);
        told.start();
        told.put(then.lying >> herd & 1);
        told.put(Long.bitCount(then.roadCells(walk.keeps)));
        return then.at[herd];
    }

    public int roadin(int n) {
        if (n < 0 || n > LOOKS_ON) {
            return NONE;
        }
        long then = foresight.lookOn(n).roadCells(walk.keeps);
        told.start();
        told.put(then);
        told.put(roadNow() & ~then);
        return Long.bitCount(then);
    }

    public int market(int cell, int n) {
        if (!ground.isThere(cell) || n < 1 || n > LOOKS_ON) {
            return NONE;
        }
        State then = foresight.begin();
        int found = 0;
        int first = NONE;
        int latest = NONE;
        int run = 0;
        int longest = 0;
        for (int hour = 1; hour <= n; hour++) {
            walk.pass(then);
            if (then.isRoad(cell, walk.keeps)) {
                found++;
                first = first == NONE ? hour : first;
                latest = hour;
                run++;
                longest = Math.max(longest, run);
            } else {
                run = 0;
            }
        }
        told.start();
        told.put(first);
        told.put(latest);
        told.put(longest);
        return found;
    }

    public int trodden(int cell) {
        if (!ground.isThere(cell)) {
            return NONE;
        }
        State then = foresight.begin();
        int hour = then.herdsAt(cell) != 0 ? 0 : foresight.hourOfComing(cell, LOOKS_ON);
        if (hour == NONE) {
            return CANNOT;
        }
        told.start();
        told.put(then.firstHerdAt(cell));
        return hour;
    }

    public int meets() {
        State then = foresight.begin();
        for (int hour = 0; hour <= LOOKS_ON; hour++) {
            if (hour > 0) {
                walk.pass(then);
            }
            int size = then.sizeOfMeeting(walk.keeps);
            if (size > 0) {
                told.start();
                told.put(size);
                return hour;
            }
        }
        return CANNOT;
    }

    public int round(int herd) {
        if (!present.hasHerd(herd)) {
            return NONE;
        }
        int hour = foresight.hourOfReturn(herd);
        if (hour == NONE) {
            return NONE;
        }
        int cell = foresight.ahead.at[herd];
        told.start();
        told.put(cell);
        told.put(hour - foresight.wasAt[cell]);
        return hour;
    }

    // ---- salt

    public int lure(int cell, int n) {
        if (!ground.isThere(cell) || n < 1 || n > LOOKS_ON) {
            return NONE;
        }
        foresight.begin();
        boolean comes = present.herdsAt(cell) != 0 || foresight.hourOfComing(cell, n) != NONE;
        int laid = comes ? 0 : foresight.saltThatLures(cell, n);
        if (laid != CANNOT) {
            told.start();
            told.put(comes ? NONE : foresight.firstCell);
        }
        return laid;
    }

    public int hedge(int cell, int n) {
        if (!ground.isThere(cell) || n < 1 || n > LOOKS_ON) {
            return NONE;
        }
        foresight.begin();
        if (foresight.hourOfComing(cell, n) == NONE) {
            told.start();
            return 0;
        }
        if (foresight.isHedgedByOne(cell, n)) {
            told.start();
            told.put(foresight.firstCell);
            return 1;
        }
        if (foresight.isHedgedByTwo(cell, n)) {
            told.start();
            told.put(foresight.firstCell);
            told.put(foresight.secondCell);
            return 2;
        }
        return CANNOT;
    }

    // ---- gates

    public int gates(int herd, int cell, int n) {
        if (!present.hasHerd(herd) || !ground.isThere(cell) || n < 1 || n > LOOKS_ON) {
            return NONE;
        }
        int needed = ground.gatesIn(present.herdCells());
        int found = 0;
        int smallest = NONE;
        int inAll = NONE;
        for (int open = 0; open < 1 << ground.gateCount; open++) {
            if ((open & needed) == needed && foresight.isAtWith(open, herd, cell, n)) {
                found++;
                inAll &= open;
                boolean smaller = found == 1 || Integer.bitCount(open) < Integer.bitCount(smallest);
                smallest = smaller ? open : smallest;
            }
        }
        told.start();
        told.put(smallest);
        told.put(found == 0 ? 0 : inAll);
        return found;
    }

    // ---- the bride, lost cows, letters

    public int ways(int from, int to, int k) {
        if (!ground.isThere(from) || !ground.isThere(to) || k < 0 || k > WAY_STEPS) {
            return NONE;
        }
        long cells = roadNow();
        int next = NONE;
        if (k > 0 && Board.has(cells, from)) {
            trails.countWays(cells, to, k - 1);
            next = trails.leastWithWay(from);
        }
        trails.countWays(cells, to, k);
        told.start();
        told.put(next);
        return (int) trails.shares[from];
    }

    public int bride() {
        text.begin(Text.MOST);
        int fault = faultOfSightings();
        int answer = fault == 0 ? followSightings() : fault;
        text.empty();
        return answer;
    }

    public int lost(int from, int to, int n) {
        if (!ground.isThere(from) || !ground.isThere(to) || n < 0 || n > LOST_HOURS) {
            return NONE;
        }
        long open = ground.openTo(present.open);
        if (!Board.has(open, from)) {
            return NONE;
        }
        trails.stray(open, from, n);
        told.start();
        told.put(trails.likeliest());
        return (int) trails.shares[to];
    }

    public int letter(int cell) {
        if (!ground.isThere(cell)) {
            return NONE;
        }
        State then = foresight.begin();
        int carrier = then.firstHerdAt(cell);
        for (int hour = 1; hour <= LOOKS_ON; hour++) {
            walk.pass(then);
            if (carrier == NONE) {
                // One that has come in this HOUR moved in it, so it can't lie before the next.
                carrier = then.firstHerdAt(cell);
            } else if ((then.lying >> carrier & 1) != 0) {
                told.start();
                told.put(carrier);
                told.put(then.at[carrier]);
                return hour;
            }
        }
        return CANNOT;
    }

    private int faultOfSightings() {
        for (int seen = 0; seen < SEEN_CELLS; seen++) {
            if (readCell(ground.columns, ground.rows) == NONE) {
                return text.fault();
            }
            if (text.isAtEnd()) {
                return 0;
            }
        }
        return text.fault();
    }

    private int followSightings() {
        text.begin(Text.MOST);
        long cells = roadNow();
        int from = readCell(ground.columns, ground.rows);
        if (!Board.has(cells, from)) {
            return NOT_BY_ROAD;
        }
        int steps = 0;
        long found = 1;
        for (int seen = 1; seen < SEEN_CELLS && !text.isAtEnd(); seen++) {
            int to = readCell(ground.columns, ground.rows);
            trails.measure(cells, from);
            if (!Board.has(cells, to) || trails.steps[to] == NONE) {
                return NOT_BY_ROAD;
            }
            int stage = trails.steps[to];
            trails.countWays(cells, to, stage);
            steps += stage;
            found = Math.min(MOST_WAYS, found * trails.shares[from]);
            from = to;
        }
        told.start();
        told.put(found);
        return steps;
    }

    // ---- winter, seasons

    public int snow() {
        snowed = true;
        snowRoad = roadNow();
        return Long.bitCount(snowRoad);
    }

    public int thaw() {
        if (!snowed) {
            return CANNOT;
        }
        long cells = roadNow();
        told.start();
        told.put(snowRoad & ~cells);
        told.put(cells & ~snowRoad);
        return Long.bitCount(snowRoad & ~cells);
    }

    public int season(int seed, int n) {
        int size = ground.columns * ground.rows;
        if (n < 1 || n > HOURS_AT_ONCE || size < 1) {
            return NONE;
        }
        State then = foresight.begin();
        int drawn = seed;
        int moved = 0;
        for (int hour = 0; hour < n; hour++) {
            drawn = drawn * 1103515245 + 12345;
            moved += passWithFlies(then, ground.cellToldAs((drawn >>> 16) % size));
        }
        tellPlaces(then);
        return moved;
    }

    private int passWithFlies(State then, int cell) {
        if (!ground.isPlain(cell)) {
            return walk.pass(then);
        }
        int was = then.thistles[cell];
        then.thistles[cell] = MOST_ON_A_CELL;
        int moved = walk.pass(then);
        then.thistles[cell] = was;
        return moved;
    }

    // ---- kept

    public boolean keep(int i) {
        if (i < 0 || i >= KEPT_PLACES) {
            return false;
        }
        kept[i].copyFrom(present);
        keptPlaces |= 1 << i;
        return true;
    }

    public boolean again(int i) {
        if (i < 0 || i >= KEPT_PLACES || (keptPlaces >> i & 1) == 0) {
            return false;
        }
        present.copyFrom(kept[i]);
        past.forget();
        return true;
    }

    public int count(int what) {
        switch (what) {
            case 0:
                return ground.columns;
            case 1:
                return ground.rows;
            case 2:
                return ground.gateCount;
            case 3:
                return present.open;
            case 4:
                return present.herdCount;
            case 5:
                return present.lying;
            case 6:
                return present.now;
            case 7:
                return walk.keeps;
            case 8:
                return walk.grows;
            case 9:
                return present.grassInAll();
            case 10:
                return past.size;
            case 11:
                return told.size;
            case 12:
                return text.length;
            default:
                return NONE;
        }
    }

    public long row(int i) throws NoSuchElementException {
        if (i < 0 || i >= told.size) {
            throw new NoSuchElementException("no such number in the ROW");
        }
        return told.numbers[i];
    }

    /** THE TEXT, and a reader that goes over it and stops at the first sign that can't stand. */
    private static final class Text {
        static final int MOST = 80;
        static final int END = -1;
        /** What stands at the limit of a text that has more: no reader takes it, not even as an end. */
        static final int CUT = -2;

        private final char[] signs = new char[MOST];
        int length;
        private int reading;
        private int limit = MOST;

        boolean append(int v) {
            if (length + 4 > MOST) {
                return false;
            }
            for (int shift = 24; shift >= 0; shift -= 8) {
                signs[length] = (char) (v >>> shift & 255);
                length++;
            }
            return true;
        }

        void tell(String words) {
            length = Math.min(MOST, words.length());
            for (int i = 0; i < length; i++) {
                signs[i] = words.charAt(i);
            }
        }

        void empty() {
            length = 0;
        }

        void begin(int mostSigns) {
            reading = 0;
            limit = mostSigns;
        }

        int here() {
            if (reading >= limit) {
                return length > limit ? CUT : END;
            }
            return reading >= 0 && reading < length ? signs[reading] : END;
        }

        void step() {
            reading++;
        }

        void stepBack() {
            reading--;
        }

        boolean isAtEnd() {
            return here() == END;
        }

        int fault() {
            return -1 - reading;
        }

        boolean take(char sign) {
            if (here() != sign) {
                return false;
            }
            step();
            return true;
        }

        int takeOneOf(String wanted) {
            int sign = here();
            if (sign < 0 || wanted.indexOf((char) sign) < 0) {
                return NONE;
            }
            step();
            return sign;
        }

        int column(int columns) {
            return takeFrom('a', 0, columns - 1);
        }

        int digit(int low, int high) {
            return takeFrom('0', low, high);
        }

        private int takeFrom(char zero, int low, int high) {
            int value = here() - zero;
            if (value < low || value > high) {
                return NONE;
            }
            step();
            return value;
        }
    }

    /** The ROW; what does not find room in it is not told. */
    private static final class Row {
        static final int MOST = 14;

        final long[] numbers = new long[MOST];
        int size;

        void start() {
            size = 0;
        }

        void put(long number) {
            if (size < MOST) {
                numbers[size] = number;
                size++;
            }
        }
    }

    /** Sets of cells as bits; rows are 8 bits wide, whatever the meadow's columns. */
    private static final class Board {
        static final long WEST_EDGE = 0x0101010101010101L;
        static final long EAST_EDGE = 0x8080808080808080L;
        static final int NORTH = 0;
        static final int WEST = 3;

        static long bit(int cell) {
            return 1L << cell;
        }

        static boolean has(long cells, int cell) {
            return cell >= 0 && cell < CELLS && (cells >>> cell & 1L) != 0;
        }

        static int firstOf(long cells) {
            return cells == 0 ? NONE : Long.numberOfTrailingZeros(cells);
        }

        static long beside(long cells) {
            return cells >>> SIDE | cells << SIDE
                    | (cells & ~EAST_EDGE) << 1 | (cells & ~WEST_EDGE) >>> 1;
        }

        /** The cell to the north, east, south or west (ways 0 to 3); NONE beyond the edge. */
        static int next(int cell, int way) {
            int x = cell % SIDE;
            switch (way) {
                case 0:
                    return cell >= SIDE ? cell - SIDE : NONE;
                case 1:
                    return x < SIDE - 1 ? cell + 1 : NONE;
                case 2:
                    return cell < CELLS - SIDE ? cell + SIDE : NONE;
                default:
                    return x > 0 ? cell - 1 : NONE;
            }
        }

        static long pieceOf(long cells, int cell) {
            if (!has(cells, cell)) {
                return 0;
            }
            long piece = bit(cell);
            for (int i = 0; i < CELLS; i++) {
                long grown = piece | beside(piece) & cells;
                if (grown == piece) {
                    break;
                }
                piece = grown;
            }
            return piece;
        }
    }

    /** What of THE MEADOW never changes till it is told anew. */
    private static final class Ground {
        int columns;
        int rows;
        int gateCount;
        final int[] gateAt = new int[MOST_GATES];
        private long all;
        private long plain;
        private long fences;

        /** 0, or -1 - p. */
        int faultIn(Text text) {
            text.begin(TOLD_SIGNS);
            int width = SIDE;
            int x = 0;
            int y = 0;
            int gatesTold = 0;
            for (int p = 0; p <= TOLD_SIGNS; p++) {
                boolean rowIsFull = y == 0 ? x > 0 : x == width;
                if (rowIsFull && text.isAtEnd()) {
                    return 0;
                }
                if (rowIsFull && y < SIDE - 1 && text.take('/')) {
                    width = x;
                    x = 0;
                    y++;
                } else if (x < width && gatesTold < MOST_GATES && text.take('+')) {
                    gatesTold++;
                    x++;
                } else if (x < width && text.takeOneOf("0123456789#") != NONE) {
                    x++;
                } else {
                    return text.fault();
                }
            }
            return text.fault();
        }

        /** Lays a meadow that is told without fault. */
        void lay(Text text, State state) {
            state.clear();
            all = 0;
            plain = 0;
            fences = 0;
            gateCount = 0;
            columns = 0;
            rows = 1;
            int x = 0;
            text.begin(TOLD_SIGNS);
            for (int p = 0; p < TOLD_SIGNS && !text.isAtEnd(); p++) {
                if (text.take('/')) {
                    rows++;
                    x = 0;
                } else {
                    layCell(SIDE * (rows - 1) + x, text, state);
                    x++;
                    columns = Math.max(columns, x);
                }
            }
        }

        private void layCell(int cell, Text text, State state) {
            if (cell < 0 || cell >= CELLS) {
                return;
            }
            all |= Board.bit(cell);
            if (text.take('#')) {
                fences |= Board.bit(cell);
            } else if (gateCount < MOST_GATES && text.take('+')) {
                gateAt[gateCount] = cell;
                gateCount++;
            } else {
                plain |= Board.bit(cell);
                state.grass[cell] = Math.max(0, text.digit(0, 9));
            }
        }

        boolean isThere(int cell) {
            return Board.has(all, cell);
        }

        boolean isPlain(int cell) {
            return Board.has(plain, cell);
        }

        int kindOf(int cell, int open) {
            if (Board.has(plain, cell)) {
                return 0;
            }
            if (Board.has(fences, cell)) {
                return 1;
            }
            return Board.has(openTo(open), cell) ? 3 : 2;
        }

        /** The cells that can be gone to while a set of GATES is open. */
        long openTo(int open) {
            long cells = plain;
            for (int gate = 0; gate < gateCount; gate++) {
                if ((open >> gate & 1) != 0) {
                    cells |= Board.bit(gateAt[gate]);
                }
            }
            return cells;
        }

        int gatesIn(long cells) {
            int found = 0;
            for (int gate = 0; gate < gateCount; gate++) {
                if (Board.has(cells, gateAt[gate])) {
                    found |= 1 << gate;
                }
            }
            return found;
        }

        /** The cell that was told as number i, row by row. */
        int cellToldAs(int i) {
            return columns < 1 ? NONE : SIDE * (i / columns) + i % columns;
        }
    }

    /** Cells, GATES, herds and NOW: all that HOURS change, and that is undone and kept. */
    private static final class State {
        final int[] grass = new int[CELLS];
        final int[] salt = new int[CELLS];
        final int[] thistles = new int[CELLS];
        final int[] last = new int[CELLS];
        final int[] lastBy = new int[CELLS];
        final int[] at = new int[MOST_HERDS];
        final int[] greed = new int[MOST_HERDS];
        int herdCount;
        int slow;
        int lying;
        int open;
        int now;

        State() {
            Arrays.fill(last, NONE);
            Arrays.fill(lastBy, NONE);
        }

        void clear() {
            Arrays.fill(grass, 0);
            Arrays.fill(salt, 0);
            Arrays.fill(thistles, 0);
            Arrays.fill(last, NONE);
            Arrays.fill(lastBy, NONE);
            herdCount = 0;
            slow = 0;
            lying = 0;
            open = 0;
            now = 0;
        }

        void copyFrom(State other) {
            System.arraycopy(other.grass, 0, grass, 0, CELLS);
            System.arraycopy(other.salt, 0, salt, 0, CELLS);
            System.arraycopy(other.thistles, 0, thistles, 0, CELLS);
            System.arraycopy(other.last, 0, last, 0, CELLS);
            System.arraycopy(other.lastBy, 0, lastBy, 0, CELLS);
            System.arraycopy(other.at, 0, at, 0, MOST_HERDS);
            System.arraycopy(other.greed, 0, greed, 0, MOST_HERDS);
            herdCount = other.herdCount;
            slow = other.slow;
            lying = other.lying;
            open = other.open;
            now = other.now;
        }

        boolean hasHerd(int herd) {
            return herd >= 0 && herd < herdCount;
        }

        void addHerd(int cell, int howGreedy, boolean isSlow) {
            if (herdCount >= MOST_HERDS) {
                return;
            }
            int herd = herdCount;
            herdCount++;
            greed[herd] = howGreedy;
            slow |= isSlow ? 1 << herd : 0;
            tread(herd, cell);
            lying |= 1 << herd;
        }

        /** The herd goes to a cell, and so does not lie. */
        void tread(int herd, int cell) {
            at[herd] = cell;
            last[cell] = now;
            lastBy[cell] = herd;
            lying &= ~(1 << herd);
        }

        void graze(int cell) {
            if (grass[cell] > 0) {
                grass[cell]--;
            } else if (salt[cell] > 0) {
                salt[cell]--;
            }
        }

        boolean isRoad(int cell, int keeps) {
            return last[cell] != NONE && now - last[cell] <= keeps;
        }

        long roadCells(int keeps) {
            long cells = 0;
            for (int cell = 0; cell < CELLS; cell++) {
                if (isRoad(cell, keeps)) {
                    cells |= Board.bit(cell);
                }
            }
            return cells;
        }

        long troddenLastBy(int herd) {
            long cells = 0;
            for (int cell = 0; cell < CELLS; cell++) {
                if (lastBy[cell] == herd) {
                    cells |= Board.bit(cell);
                }
            }
            return cells;
        }

        long herdCells() {
            long cells = 0;
            for (int herd = 0; herd < herdCount; herd++) {
                cells |= Board.bit(at[herd]);
            }
            return cells;
        }

        int herdsAt(int cell) {
            int found = 0;
            for (int herd = 0; herd < herdCount; herd++) {
                if (at[herd] == cell) {
                    found |= 1 << herd;
                }
            }
            return found;
        }

        int firstHerdAt(int cell) {
            return Board.firstOf(herdsAt(cell));
        }

        /** How many cells the one piece of ROAD has in which all herds are; 0: there is none. */
        int sizeOfMeeting(int keeps) {
            if (herdCount == 0) {
                return 0;
            }
            long piece = Board.pieceOf(roadCells(keeps), at[0]);
            return (herdCells() & ~piece) == 0 ? Long.bitCount(piece) : 0;
        }

        int grassInAll() {
            int sum = 0;
            for (int cell = 0; cell < CELLS; cell++) {
                sum += grass[cell];
            }
            return sum;
        }
    }

    /** THE RULE, kept with each sign behind the things that it binds, so that it is reckoned in one go. */
    private static final class Rule {
        /** The letters of what a rule asks of a herd and a cell; it is handed them in this order. */
        static final String FACTS = "gstrmoeik";
        static final int FACT_COUNT = 9;
        private static final int MOST_DEEP = 4;
        private static final int COMPARES = 1;
        /** A minus ahead of a thing; no sign of a text, so that none is taken for it. */
        private static final int TURN_ROUND = 256;

        private final int[] code = new int[RULE_SIGNS];
        private int codeSize;
        private final int[] draft = new int[RULE_SIGNS];
        private int draftSize;
        private final int[] waiting = new int[RULE_SIGNS];
        private int waitingSize;
        private final int[] values = new int[RULE_SIGNS];
        private int depth;
        /** Bit d: the EXPRESSION that is open at depth d has its < > or = already. */
        private int compared;
        private boolean wantsThing;

        /** 0, or -1 - p, and then the rule is the one that it was. */
        int learn(Text text) {
            text.begin(RULE_SIGNS);
            draftSize = 0;
            waitingSize = 0;
            depth = 0;
            compared = 0;
            wantsThing = true;
            for (int i = 0; i <= RULE_SIGNS; i++) {
                if (!wantsThing && depth == 0 && text.isAtEnd()) {
                    release(COMPARES);
                    System.arraycopy(draft, 0, code, 0, RULE_SIGNS);
                    codeSize = draftSize;
                    return 0;
                }
                boolean stands = wantsThing ? readThing(text) : readBinding(text);
                if (!stands) {
                    return text.fault();
                }
            }
            return text.fault();
        }

        private boolean readThing(Text text) {
            if (text.take('-')) {
                hold(TURN_ROUND);
                return true;
            }
            if (depth < MOST_DEEP && text.take('(')) {
                hold('(');
                depth++;
                compared &= ~(1 << depth);
                return true;
            }
            int digit = text.digit(0, 9);
            if (digit != NONE) {
                write(-readNumber(text, digit));
            } else {
                int fact = text.takeOneOf(FACTS);
                if (fact == NONE) {
                    return false;
                }
                write(numberOf(fact));
            }
            wantsThing = false;
            return true;
        }

        private static int readNumber(Text text, int firstDigit) {
            int number = firstDigit;
            for (int i = 1; i < 3; i++) {
                int digit = text.digit(0, 9);
                if (digit == NONE) {
                    break;
                }
                number = number * 10 + digit;
            }
            return number;
        }

        private boolean readBinding(Text text) {
            if (depth > 0 && text.take(')')) {
                release(COMPARES);
                waitingSize = Math.max(0, waitingSize - 1);
                depth--;
                return true;
            }
            int sign = text.here();
            int strength = strengthOf(sign);
            if (strength == 0 || strength == COMPARES && (compared >> depth & 1) != 0) {
                return false;
            }
            if (strength == COMPARES) {
                compared |= 1 << depth;
            }
            text.step();
            release(strength);
            hold(sign);
            wantsThing = true;
            return true;
        }

        private static int strengthOf(int sign) {
            switch (sign) {
                case '<':
                case '>':
                case '=':
                    return COMPARES;
                case '+':
                case '-':
                    return 2;
                case '*':
                case '/':
                    return 3;
                case TURN_ROUND:
                    return 4;
                default:
                    return 0;
            }
        }

        private void hold(int sign) {
            if (waitingSize < RULE_SIGNS) {
                waiting[waitingSize] = sign;
                waitingSize++;
            }
        }

        private void write(int sign) {
            if (draftSize < RULE_SIGNS) {
                draft[draftSize] = sign;
                draftSize++;
            }
        }

        /** Writes the signs that wait and bind as much or more; a ( binds nothing and stops it. */
        private void release(int strength) {
            for (int i = waitingSize - 1; i >= 0 && strengthOf(waiting[i]) >= strength; i--) {
                write(waiting[i]);
                waitingSize = i;
            }
        }

        /** A letter's code: 1 for the first of FACTS, so that numbers have 0 and less for theirs. */
        private static int numberOf(int fact) {
            return FACTS.indexOf((char) fact) + 1;
        }

        boolean asksFor(char fact) {
            int number = numberOf(fact);
            for (int i = 0; i < codeSize; i++) {
                if (code[i] == number) {
                    return true;
                }
            }
            return false;
        }

        int reckon(int[] facts) {
            int top = 0;
            values[0] = 0;
            for (int i = 0; i < codeSize; i++) {
                int sign = code[i];
                if (sign <= facts.length) {
                    values[top] = sign <= 0 ? -sign : facts[sign - 1];
                    top++;
                } else if (sign == TURN_ROUND && top >= 1) {
                    values[top - 1] = -values[top - 1];
                } else if (top >= 2) {
                    int b = values[top - 1];
                    int a = values[top - 2];
                    top--;
                    switch (sign) {
                        case '<':
                            values[top - 1] = a < b ? 1 : 0;
                            break;
                        case '>':
                            values[top - 1] = a > b ? 1 : 0;
                            break;
                        case '=':
                            values[top - 1] = a == b ? 1 : 0;
                            break;
                        case '+':
                            values[top - 1] = a + b;
                            break;
                        case '-':
                            values[top - 1] = a - b;
                            break;
                        case '*':
                            values[top - 1] = a * b;
                            break;
                        default:
                            values[top - 1] = b == 0 ? 0 : a / b;
                            break;
                    }
                }
            }
            return values[0];
        }
    }

    /** How HOURS go by. */
    private static final class Walk {
        private final Ground ground;
        private final Rule rule;
        int keeps = 12;
        int grows = 6;
        /** Of the herd and the cell that are weighed, in the turn of Rule.FACTS. */
        private final int[] facts = new int[Rule.FACT_COUNT];
        /** The cells that herds weighed since this was last put to 0. */
        private long weighed;

        Walk(Ground ground, Rule rule) {
            this.ground = ground;
            this.rule = rule;
        }

        void forgetWeighed() {
            weighed = 0;
        }

        /** The cells where more or less of what the rule names by a letter can have told. */
        long tellingBy(char fact) {
            return rule.asksFor(fact) ? weighed : 0;
        }

        /** AN HOUR: how many herds moved. */
        int pass(State state) {
            long within = ground.openTo(state.open);
            int moved = 0;
            state.now++;
            for (int herd = 0; herd < state.herdCount; herd++) {
                int was = state.at[herd];
                int cell = choose(state, herd, within);
                state.tread(herd, cell);
                state.graze(cell);
                if (cell == was) {
                    state.lying |= 1 << herd;
                } else {
                    moved++;
                }
            }
            if (grows > 0 && state.now % grows == 0) {
                grow(state);
            }
            return moved;
        }

        int passMany(State state, int n) {
            int moved = 0;
            for (int i = 0; i < n; i++) {
                moved += pass(state);
            }
            return moved;
        }

        /** Where a herd goes in its turn, of its cell and the cells beside it that are 'within'. */
        int choose(State state, int herd, long within) {
            int here = state.at[herd];
            if ((state.slow >> herd & 1) != 0 && state.now % 2 != 0) {
                return here;
            }
            int best = here;
            int most = weigh(state, herd, here);
            for (int way = Board.NORTH; way <= Board.WEST; way++) {
                int cell = Board.next(here, way);
                if (Board.has(within, cell)) {
                    int value = weigh(state, herd, cell);
                    if (value > most) {
                        most = value;
                        best = cell;
                    }
                }
            }
            return best;
        }

        /** How a cell PLEASES a herd. */
        private int weigh(State state, int herd, int cell) {
            weighed |= Board.bit(cell);
            facts[0] = state.grass[cell];
            facts[1] = state.salt[cell];
            facts[2] = state.thistles[cell];
            facts[3] = state.isRoad(cell, keeps) ? 1 : 0;
            facts[4] = state.at[herd] == cell ? 0 : 1;
            facts[5] = Integer.bitCount(state.herdsAt(cell) & ~(1 << herd));
            facts[6] = state.greed[herd];
            facts[7] = herd;
            facts[8] = state.now;
            return rule.reckon(facts);
        }

        private void grow(State state) {
            long grazed = state.herdCells();
            for (int cell = 0; cell < CELLS; cell++) {
                if (ground.isPlain(cell) && !Board.has(grazed, cell)) {
                    state.grass[cell] = Math.min(9, state.grass[cell] + 1);
                }
            }
        }
    }

    /** Steps and ways from cell to cell. */
    private static final class Trails {
        /** Of each cell, the fewest steps to the one that was measured from; NONE: not to be reached. */
        final int[] steps = new int[CELLS];
        /** Of each cell, its ways or its millionths, as they were last counted. */
        final long[] shares = new long[CELLS];
        private final long[] spare = new long[CELLS];

        void measure(long road, int from) {
            Arrays.fill(steps, NONE);
            long reached = 0;
            long edge = Board.has(road, from) ? Board.bit(from) : 0;
            for (int far = 0; far < CELLS && edge != 0; far++) {
                for (int cell = 0; cell < CELLS; cell++) {
                    if (Board.has(edge, cell)) {
                        steps[cell] = far;
                    }
                }
                reached |= edge;
                edge = Board.beside(edge) & road & ~reached;
            }
        }

        /** The least cell beside one that is so many steps off; the cell itself if none is. */
        int leastBeside(int cell, int far) {
            long around = Board.beside(Board.bit(cell));
            for (int other = 0; other < CELLS; other++) {
                if (Board.has(around, other) && steps[other] == far) {
                    return other;
                }
            }
            return cell;
        }

        /** Counts, of each cell, the ways of just k steps by road from it to another one. */
        void countWays(long road, int to, int k) {
            Arrays.fill(shares, 0);
            if (Board.has(road, to)) {
                shares[to] = 1;
            }
            for (int i = 0; i < k; i++) {
                for (int cell = 0; cell < CELLS; cell++) {
                    spare[cell] = Board.has(road, cell) ? sumBeside(cell) : 0;
                }
                System.arraycopy(spare, 0, shares, 0, CELLS);
            }
        }

        private long sumBeside(int cell) {
            long sum = 0;
            for (int way = Board.NORTH; way <= Board.WEST; way++) {
                int next = Board.next(cell, way);
                sum += next == NONE ? 0 : shares[next];
            }
            return Math.min(MOST_WAYS, sum);
        }

        /** The least cell beside one that has a way, as counted last; NONE. */
        int leastWithWay(int cell) {
            long around = Board.beside(Board.bit(cell));
            for (int other = 0; other < CELLS; other++) {
                if (Board.has(around, other) && shares[other] > 0) {
                    return other;
                }
            }
            return NONE;
        }

        /** The millionths of a lost cow, of each cell, behind n HOURS. */
        void stray(long within, int from, int n) {
            Arrays.fill(shares, 0);
            if (Board.has(within, from)) {
                shares[from] = MILLION;
            }
            for (int hour = 0; hour < n; hour++) {
                Arrays.fill(spare, 0);
                for (int cell = 0; cell < CELLS; cell++) {
                    if (shares[cell] > 0) {
                        shareOut(within, cell);
                    }
                }
                System.arraycopy(spare, 0, shares, 0, CELLS);
            }
        }

        private void shareOut(long within, int cell) {
            int choices = 1 + Long.bitCount(Board.beside(Board.bit(cell)) & within);
            long share = shares[cell] / choices;
            spare[cell] += share;
            for (int way = Board.NORTH; way <= Board.WEST; way++) {
                int next = Board.next(cell, way);
                if (Board.has(within, next)) {
                    spare[next] += share;
                }
            }
        }

        int likeliest() {
            int best = NONE;
            long most = 0;
            for (int cell = 0; cell < CELLS; cell++) {
                if (shares[cell] > most) {
                    most = shares[cell];
                    best = cell;
                }
            }
            return best;
        }
    }

    /** What can be undone: the states ahead of the latest acts. */
    private static final class Past {
        static final int MOST = 10;

        private final State[] states = new State[MOST];
        private int next;
        int size;

        Past() {
            for (int i = 0; i < MOST; i++) {
                states[i] = new State();
            }
        }

        void forget() {
            size = 0;
        }

        void add(State state) {
            states[next].copyFrom(state);
            next = (next + 1) % MOST;
            size = Math.min(MOST, size + 1);
        }

        boolean bringBack(State state) {
            if (size == 0) {
                return false;
            }
            next = (next + MOST - 1) % MOST;
            state.copyFrom(states[next]);
            size--;
            return true;
        }
    }

    /** HOURS to come, tried out on a copy of the present. */
    private static final class Foresight {
        private final State present;
        private final Ground ground;
        private final Walk walk;
        final State ahead = new State();
        /** In which HOUR a herd was first at a cell, of each cell; NONE. */
        final int[] wasAt = new int[CELLS];
        /** Where more THISTLES can tell in the run with some on a cell, of each cell. */
        private final long[] tellingWith = new long[CELLS];
        int firstCell;
        int secondCell;

        Foresight(State present, Ground ground, Walk walk) {
            this.present = present;
            this.ground = ground;
            this.walk = walk;
        }

        State begin() {
            ahead.copyFrom(present);
            walk.forgetWeighed();
            return ahead;
        }

        State lookOn(int n) {
            begin();
            walk.passMany(ahead, n);
            return ahead;
        }

        /** The first of n HOURS, from what is ahead on, in which a cell is trodden; NONE. */
        int hourOfComing(int cell, int n) {
            for (int hour = 1; hour <= n; hour++) {
                walk.pass(ahead);
                if (ahead.herdsAt(cell) != 0) {
                    return hour;
                }
            }
            return NONE;
        }

        /** The first HOUR behind which a herd is where it was already. */
        int hourOfReturn(int herd) {
            begin();
            Arrays.fill(wasAt, NONE);
            wasAt[ahead.at[herd]] = 0;
            for (int hour = 1; hour <= LOOKS_ON; hour++) {
                walk.pass(ahead);
                int cell = ahead.at[herd];
                if (wasAt[cell] != NONE) {
                    return hour;
                }
                wasAt[cell] = hour;
            }
            return NONE;
        }

        boolean isAtWith(int open, int herd, int cell, int n) {
            begin();
            ahead.open = open;
            walk.passMany(ahead, n);
            return ahead.at[herd] == cell;
        }

        /**
         * The least SALT, on 'firstCell', that makes a herd come by, or CANNOT. The run without it
         * must have been the last one: salt where no herd weighed a cell in it would change nothing.
         */
        int saltThatLures(int cell, int n) {
            long telling = walk.tellingBy('s');
            for (int more = 1; more <= MOST_ON_A_CELL; more++) {
                for (int spot = 0; spot < CELLS; spot++) {
                    if (Board.has(telling, spot) && ground.isPlain(spot)
                            && present.salt[spot] + more <= MOST_ON_A_CELL) {
                        begin();
                        ahead.salt[spot] += more;
                        if (hourOfComing(cell, n) != NONE) {
                            firstCell = spot;
                            return more;
                        }
                    }
                }
            }
            return CANNOT;
        }

        /** Whether THISTLES on 'firstCell' keep herds from a cell; behind the run without any. */
        boolean isHedgedByOne(int cell, int n) {
            long telling = walk.tellingBy('t');
            for (int spot = 0; spot < CELLS; spot++) {
                tellingWith[spot] = telling;
                if (Board.has(telling, spot) && ground.isPlain(spot)) {
                    beginWithThistles(spot, spot);
                    if (hourOfComing(cell, n) == NONE) {
                        firstCell = spot;
                        return true;
                    }
                    tellingWith[spot] = walk.tellingBy('t');
                }
            }
            return false;
        }

        /**
         * Whether THISTLES on 'firstCell' and 'secondCell' keep herds from a cell; behind the runs
         * with one. Each must have been weighed in the run with the other, or it adds nothing to it.
         */
        boolean isHedgedByTwo(int cell, int n) {
            for (int one = 0; one < CELLS; one++) {
                for (int two = one + 1; two < CELLS; two++) {
                    if (Board.has(tellingWith[one], two) && Board.has(tellingWith[two], one)
                            && ground.isPlain(one) && ground.isPlain(two)) {
                        beginWithThistles(one, two);
                        if (hourOfComing(cell, n) == NONE) {
                            firstCell = one;
                            secondCell = two;
                            return true;
                        }
                    }
                }
            }
            return false;
        }

        private void beginWithThistles(int one, int two) {
            begin();
            ahead.thistles[one] = MOST_ON_A_CELL;
            ahead.thistles[two] = MOST_ON_A_CELL;
        }
    }
}
