import java.util.Arrays;

/**
 * Boxes that run programs by ticks, the flights that they feel, and what is claimed of them.
 * The document ../shared/DOC.md says what each call answers; its words are the names here.
 */
public final class NarrowBox {
    public static final int BAD = -1, NOT = -2, FULL = -3, BIG = -4, STATE = -5, VOID = -2000000000;

    private static final int NOTHING_THERE = -11, OTHER_KIND = -12, NO_PLACE = -13, BELOW_ZERO = -14;

    private static final int BOXES = 6, KINDS = 7, TWIN = 1, STEERING = 2;
    private static final int SLOTS = 8, PORTS = 4, INPUTS = 4;
    private static final int LEAST_BITS = 2, MOST_BITS = 20, FIRST_BITS = 16;
    private static final int TAPE = 160, LINES = 12, MOST_OPEN = 6, MOST_DIGITS = 5;
    private static final int PORT_TARGET = 10, TEXT_FAULT = -100;

    private static final int FLIGHTS = 8, FELTS = 3, TICKS = 200, MACHINES = 2;
    private static final int MOST_START = 99999, MOST_STEP = 999, MOST_CAP = 99999;
    private static final int MOST_BEGINNINGS = 2000;

    private static final int LARGEST = 1000000000;
    private static final int NO_FIT = 1, TOO_LARGE = 2, BY_ZERO = 3, FAULT_READ = 4;
    private static final int STEERED_FAULT = 9000, MOST_TOLD_FAULT = 9;

    private static final int WATCHABLE = 8, WATCH_SETS = 256, MOST_TIME = 9;
    private static final int PAPERS = 20, PERSONS = 12, NO_PAPER = 99, BOX_CLAIM = 10;
    private static final int SHELVES = 6, PLACES = 60, FLOATS = 3, DOUBLES = 4;
    private static final int ACTS = 4, KEPT_BODIES = 24;

    // A program's words: what is done, shifted up, and the number that goes with it.
    private static final int WORD_SHIFT = 20, WORD_MASK = (1 << WORD_SHIFT) - 1;
    private static final int NUMBER = 0, SLOT = 1, INPUT = 2, FELT = 3, TICK = 4, CAUGHT = 5, NEGATE = 6;
    private static final int OR = 7, AND = 8, LESS = 9, SAME = 10, MORE = 11;
    private static final int PLUS = 12, MINUS = 13, TIMES = 14, QUOTIENT = 15, REST = 16;

    // How tightly operators bind; an operand binds tightest.
    private static final int LOOSEST = 0, COMPARISON = 2, OPERAND = 5;

    /** The KIND above each KIND; BOX has none. */
    private static final int[] ABOVE = {-1, 0, 0, 0, 0, 4, 3};

    /** A KIND's own bodies of runs, sends, catches, tells (0: none); BOX's row has those of its interfaces. */
    private static final int[] BODIES = {
        1, 10, 11, 2,
        0, 20, 0, 0,
        0, 0, 30, 0,
        40, 0, 0, 0,
        0, 0, 0, 50,
        0, 0, 60, 61,
        70, 71, 0, 0
    };

    private final Reader tape = new Reader();
    private final Box[] boxes = new Box[BOXES];
    private final Flight[] flights = new Flight[FLIGHTS];
    private final Shelf[] shelves = new Shelf[SHELVES];
    private final Papers papers = new Papers();
    private final Spans spans = new Spans();
    private final Ticker ticker = new Ticker();
    private final Acts acts = new Acts();
    private final Stand latest = new Stand();
    private final Stand plain = new Stand();
    private final Stand tried = new Stand();
    private final Flight trial = new Flight();
    private final int[] beginning = new int[FELTS];
    private final int[] killed = new int[FLIGHTS];
    private final Failures failures = new Failures();
    private Program spare = new Program();
    private int boxCount;
    private int flightCount;
    /** How many BOXES took part in the latest run(); -1 before any. */
    private int ranBoxes = -1;
    private boolean found;

    public NarrowBox() {
        for (int s = 0; s < SHELVES; s++) {
            shelves[s] = new Shelf();
        }
    }

    // ---- boxes

    public int feed(int n, int v) {
        if (n < 1 || n > 4) {
            return BAD;
        }
        if (tape.length + n > TAPE) {
            return FULL;
        }
        for (int i = 0; i < n; i++) {
            tape.append(v >> 8 * i & 255);
        }
        return tape.length;
    }

    public int box(int kind) {
        if (kind < 0 || kind >= KINDS) {
            return BAD;
        }
        if (boxCount == BOXES) {
            return FULL;
        }
        boxes[boxCount] = new Box(boxCount, kind);
        return boxCount++;
    }

    public int program(int box) {
        if (!isBox(box)) {
            return BAD;
        }
        int fault = tape.readInto(spare);
        tape.length = 0;
        if (fault >= 0) {
            return TEXT_FAULT - fault;
        }
        Program former = boxes[box].program;
        boxes[box].program = spare;
        spare = former;
        return boxes[box].program.lines;
    }

    public int bits(int box, int slot, int b) {
        if (!isBox(box) || slot < 0 || slot >= SLOTS || b < LEAST_BITS || b > MOST_BITS) {
            return BAD;
        }
        int former = boxes[box].slotBits[slot];
        boxes[box].slotBits[slot] = b;
        return former;
    }

    public int wire(int box, int input, int from, int port) {
        if (!isBox(box) || input < 0 || input >= INPUTS) {
            return VOID;
        }
        if (from != -1 && (!isBox(from) || port < 0 || port >= PORTS)) {
            return VOID;
        }
        int former = boxes[box].wires[input];
        boxes[box].wires[input] = from == -1 ? -1 : 10 * from + port;
        return former;
    }

    public int line(int box, int line, int what) {
        if (!isLine(box, line)) {
            return BAD;
        }
        Program p = boxes[box].program;
        switch (what) {
            case 0:
                return p.catches >> line & 1;
            case 1:
                return p.hasTest(line) ? 1 : 0;
            case 2:
                return p.watches >> line & 1;
            case 3:
                return p.targets[line];
            default:
                return BAD;
        }
    }

    public int watch(int box, int line, int is) {
        if (!isLine(box, line) || is < 0 || is > 1) {
            return BAD;
        }
        Program p = boxes[box].program;
        int former = p.watches >> line & 1;
        p.watches = p.watches & ~(1 << line) | is << line;
        return former;
    }

    // ---- flights, runs

    public int flight() {
        if (flightCount == FLIGHTS) {
            return FULL;
        }
        flights[flightCount] = new Flight();
        return flightCount++;
    }

    public int felt(int fk, int start, int step, int cap) {
        if (!isFelt(fk) || !isWithin(start, MOST_START) || !isWithin(step, MOST_STEP)) {
            return BAD;
        }
        if (cap < 0 || cap > MOST_CAP) {
            return BAD;
        }
        flights[fk / 10].tell(fk % 10, start, step, cap);
        return 1;
    }

    public int feltRow(int fk, int shelf, int i) {
        if (!isFelt(fk) || shelf < -1 || shelf >= SHELVES) {
            return BAD;
        }
        Flight f = flights[fk / 10];
        if (shelf == -1) {
            f.leaveRow(fk % 10);
            return 0;
        }
        Shelf s = shelves[shelf];
        if (!s.isEmpty() && !s.holdsReals()) {
            return OTHER_KIND;
        }
        return f.takeRow(fk % 10, s, i);
    }

    public int feels(int fk, int t) {
        return isFelt(fk) && isTick(t) ? flights[fk / 10].feltAt(fk % 10, t) : VOID;
    }

    public int run(int flight, int n) {
        if (!isFlight(flight) || !isTicks(n)) {
            return BAD;
        }
        fly(latest, flights[flight], n, 0);
        ranBoxes = boxCount;
        return Integer.bitCount(latest.dead);
    }

    public int ofRun(int box, int what) {
        if (box < 0 || box >= ranBoxes) {
            return VOID;
        }
        int fault = latest.faults[box];
        if (what >= 0 && what < SLOTS) {
            return latest.slots[box * SLOTS + what];
        }
        if (what >= 10 && what < 10 + PORTS) {
            return fault == 0 ? latest.ports[box * PORTS + what - 10] : VOID;
        }
        if (what >= 20 && what < 20 + PORTS) {
            return fault;
        }
        switch (what) {
            case 30:
                return fault == 0 ? 0 : 1;
            case 31:
                return latest.deadAt[box];
            case 32:
                return latest.caught[box];
            default:
                return VOID;
        }
    }

    public int firstFault(int what) {
        if (ranBoxes < 0 || what < 0 || what > 3) {
            return BAD;
        }
        return latest.dead == 0 ? NOT : latest.first[what];
    }

    public int span(int mk, int least, int greatest) {
        // A flight begins at a START, so a span ends where START's own bounds are.
        if (mk < 0 || mk / 10 >= MACHINES || mk % 10 >= FELTS || least > greatest) {
            return BAD;
        }
        if (!isWithin(least, MOST_START) || !isWithin(greatest, MOST_START)) {
            return BAD;
        }
        spans.tell(mk / 10, mk % 10, least, greatest);
        return 1;
    }

    public int all(int machine, int flight, int n) {
        if (!isMachine(machine) || !isFlight(flight) || !isTicks(n)) {
            return BAD;
        }
        if (spans.beginnings(machine) > MOST_BEGINNINGS) {
            return BIG;
        }
        trial.copyCourse(flights[flight]);
        spans.putFirst(machine, trial.start);
        int read = feltsRead();
        for (int ahead = 0; ahead < MOST_BEGINNINGS; ahead++) {
            if (spans.isTelling(machine, trial.start, read) && goesOver(n)) {
                System.arraycopy(trial.start, 0, beginning, 0, FELTS);
                found = true;
                return ahead;
            }
            if (!spans.putNext(machine, trial.start)) {
                break;
            }
        }
        return NOT;
    }

    public int began(int k) {
        return found && k >= 0 && k < FELTS ? beginning[k] : VOID;
    }

    public int gaps(int machine, int box) {
        return isMachine(machine) && isBox(box) ? spans.gapsOf(machine, boxes[box]) : BAD;
    }

    public int bounds(int machine, int box, int line, int what) {
        if (!isMachine(machine) || !isLine(box, line) || what < 0 || what > 1) {
            return VOID;
        }
        if (!spans.shows(machine, boxes[box], line)) {
            return VOID;
        }
        return what == 0 ? spans.leastShown() : spans.greatestShown();
    }

    public int like(int machine, int i) {
        if (!isMachine(machine) || i < -1) {
            return BAD;
        }
        int ahead = 0;
        for (int b = 0; b < boxCount; b++) {
            int gaps = spans.gapsOf(machine, boxes[b]);
            for (int l = 0; l < LINES; l++) {
                if ((gaps >> l & 1) == 0) {
                    continue;
                }
                if (ahead == i) {
                    return 100 * b + l;
                }
                ahead++;
            }
        }
        return i == -1 ? ahead : BAD;
    }

    // ---- faults, twins, watches

    public int far(int box, int flight, int n, int ft) {
        if (!isBox(box) || !isFlight(flight) || !isTicks(n) || ft < 0) {
            return BAD;
        }
        int fault = ft / 1000;
        int from = ft % 1000;
        if (fault < 1 || fault > MOST_TOLD_FAULT || !isTick(from)) {
            return BAD;
        }
        fly(plain, flights[flight], n, 0);
        flyWithout(box, from, flights[flight], n, fault);
        return unlikeBoxes();
    }

    public int twin(int twin, int box) {
        if (!isTwin(twin) || !isBox(box) || twin == box) {
            return BAD;
        }
        boxes[twin].twinOf = box;
        return 1;
    }

    public int worth(int twin, int flights, int n) {
        if (!isTwin(twin) || !areFlights(flights) || !isTicks(n)) {
            return BAD;
        }
        int box = boxes[twin].twinOf;
        if (box < 0) {
            return STATE;
        }
        int saved = 0;
        for (int f = 0; f < flightCount; f++) {
            if ((flights >> f & 1) == 1) {
                fly(tried, this.flights[f], n, 0);
                saved += tried.faults[box] != 0 && tried.faults[twin] == 0 ? 1 : 0;
            }
        }
        return saved;
    }

    public int needed(int box, int flight, int n) {
        if (!isBox(box) || !isFlight(flight) || !isTicks(n)) {
            return BAD;
        }
        if (!isReadByOthers(box)) {
            return NOT;
        }
        fly(plain, flights[flight], n, 0);
        for (int from = n - 1; from >= 0; from--) {
            flyWithout(box, from, flights[flight], n, 0);
            if ((unlikeBoxes() & ~(1 << box)) != 0) {
                return from;
            }
        }
        return NOT;
    }

    public int best(int box, int flights, int tn, int what) {
        if (!isBox(box) || !areFlights(flights) || tn < 0 || what < 0 || what > 1) {
            return BAD;
        }
        int time = tn / 1000;
        if (time < 1 || time > MOST_TIME || !isTicks(tn % 1000)) {
            return BAD;
        }
        int set = bestWatches(boxes[box], flights, tn % 1000);
        if (set < 0) {
            return NOT;
        }
        return what == 0 ? Integer.bitCount(set) * time : set;
    }

    public int fewest(int flights, int n, int what) {
        if (!areFlights(flights) || !isTicks(n) || what < 0 || what > 1) {
            return BAD;
        }
        for (int f = 0; f < flightCount; f++) {
            killed[f] = 0;
            if ((flights >> f & 1) == 1) {
                fly(tried, this.flights[f], n, 0);
                killed[f] = tried.dead;
            }
        }
        int set = fewestFor(flights, killedBy(flights));
        return what == 0 ? Integer.bitCount(set) : set;
    }

    // ---- papers

    public int paper(int sort, int k, int v, int on) {
        if (!isClaim(sort, k, v) || on < 0 || !isGround(on / 100) || !isGround(on % 100)) {
            return BAD;
        }
        if (papers.made == PAPERS) {
            return FULL;
        }
        return papers.write(sort, k, v, papers.alongOf(on / 100) | papers.alongOf(on % 100));
    }

    public int holds(int machine, int paper) {
        if (!isMachine(machine) || !isPaper(paper)) {
            return BAD;
        }
        int wanted = papers.along[paper];
        for (int p = 0; p <= paper; p++) {
            if ((wanted >> p & 1) == 1 && !isSo(machine, p)) {
                return 0;
            }
        }
        return 1;
    }

    public int sign(int person, int paper, int before) {
        if (person < 0 || person >= PERSONS || !isPaper(paper) || before < 0 || before >> papers.made != 0) {
            return BAD;
        }
        if (papers.hasSigned(person, paper)) {
            return STATE;
        }
        return papers.addSignature(person, paper, before);
    }

    public int saw(int paper, int other) {
        return isPaper(paper) && isPaper(other) ? papers.whoSaw(paper, other) : BAD;
    }

    public int blind(int machine) {
        if (!isMachine(machine)) {
            return BAD;
        }
        int so = 0;
        for (int p = 0; p < papers.made; p++) {
            so |= isSo(machine, p) ? 1 << p : 0;
        }
        return papers.whoIsBlind(so);
    }

    // ---- acts, shelves

    public int act(int box, int act, int x) {
        acts.ran = 0;
        if (!isBox(box) || act < 0 || act >= ACTS) {
            return 0;
        }
        return acts.perform(boxes[box], act, boxes[box].kind, x, 0);
    }

    public int trace(int i) {
        return i >= 0 && i < acts.ran && i < KEPT_BODIES ? acts.bodies[i] : BAD;
    }

    public int keep(int shelf, int box) {
        if (!isShelf(shelf) || box != -1 && !isBox(box)) {
            return BAD;
        }
        shelves[shelf].holdBox(box);
        return 1;
    }

    public int row(int shelf, int sort, int n) {
        if (!isShelf(shelf) || sort < 0 || sort > DOUBLES || n > PLACES) {
            return BAD;
        }
        if (n < 0) {
            return BELOW_ZERO;
        }
        shelves[shelf].holdRow(sort, n);
        return 1;
    }

    public int put(int shelf, int i, long v) {
        int refusal = refusalOf(shelf, i);
        if (refusal != 0) {
            return refusal;
        }
        shelves[shelf].set(i, v);
        return 1;
    }

    public int noNumber(int shelf, int i) {
        int refusal = refusalOf(shelf, i);
        if (refusal == BAD || refusal == NOTHING_THERE) {
            return refusal;
        }
        if (!shelves[shelf].holdsReals()) {
            return OTHER_KIND;
        }
        if (refusal != 0) {
            return refusal;
        }
        shelves[shelf].setLacking(i);
        return 1;
    }

    public long element(int shelf, int i) {
        return refusalOf(shelf, i) == 0 ? shelves[shelf].wholeAt(i) : Long.MIN_VALUE;
    }

    public int shift(int shelf, int i, int other, int j, int n) {
        if (!isShelf(shelf) || !isShelf(other)) {
            return BAD;
        }
        Shelf from = shelves[shelf];
        Shelf to = shelves[other];
        if (from.isEmpty() || to.isEmpty()) {
            return NOTHING_THERE;
        }
        if (!from.holdsRow() || from.sort != to.sort) {
            return OTHER_KIND;
        }
        if (!from.hasPlaces(i, n) || !to.hasPlaces(j, n)) {
            return NO_PLACE;
        }
        to.copyFrom(from, i, j, n);
        return n;
    }

    public int taken(int shelf, int k) {
        if (!isShelf(shelf) || k < 0 || k >= KINDS) {
            return BAD;
        }
        Shelf s = shelves[shelf];
        if (s.isEmpty()) {
            return NOTHING_THERE;
        }
        if (!isBox(s.box) || !isUnder(boxes[s.box].kind, k)) {
            return OTHER_KIND;
        }
        return boxes[s.box].kind;
    }

    public int count(int what) {
        switch (what) {
            case 0:
                return boxCount;
            case 1:
                return flightCount;
            case 2:
                return papers.made;
            case 3:
                return tape.length;
            case 4:
                return acts.ran;
            default:
                return BAD;
        }
    }

    // ---- what a number may be

    private boolean isBox(int box) {
        return box >= 0 && box < boxCount;
    }

    private boolean isTwin(int box) {
        return isBox(box) && boxes[box].kind == TWIN;
    }

    private boolean isLine(int box, int line) {
        return isBox(box) && line >= 0 && line < boxes[box].program.lines;
    }

    private boolean isFlight(int flight) {
        return flight >= 0 && flight < flightCount;
    }

    private boolean areFlights(int bits) {
        return bits >= 0 && bits >> flightCount == 0;
    }

    private boolean isFelt(int fk) {
        return fk >= 0 && isFlight(fk / 10) && fk % 10 < FELTS;
    }

    private boolean isPaper(int paper) {
        return paper >= 0 && paper < papers.made;
    }

    private boolean isGround(int paper) {
        return paper == NO_PAPER || isPaper(paper);
    }

    private boolean isClaim(int sort, int k, int v) {
        if (sort == 0 && k >= 0 && k < FELTS) {
            return v >= 0 && v <= MOST_START;
        }
        if (k < BOX_CLAIM || !isBox(k - BOX_CLAIM)) {
            return false;
        }
        return sort == 0 || sort == 1 && v >= 0 && isFlight(v / 100) && v % 100 > 0;
    }

    private static boolean isMachine(int machine) {
        return machine >= 0 && machine < MACHINES;
    }

    /** Whether a number is one of a TICK, reached by a flight or not. */
    private static boolean isTick(int t) {
        return t >= 0 && t < TICKS;
    }

    private static boolean isTicks(int n) {
        return n >= 1 && n <= TICKS;
    }

    private static boolean isShelf(int shelf) {
        return shelf >= 0 && shelf < SHELVES;
    }

    private static boolean isWithin(int v, int size) {
        return v >= -size && v <= size;
    }

    private static boolean isUnder(int kind, int above) {
        int k = kind;
        for (int n = 0; n < KINDS && k > above; n++) {
            k = ABOVE[k];
        }
        return k == above;
    }

    /** What an element of a ROW is refused with; 0 if it is there. */
    private int refusalOf(int shelf, int i) {
        if (!isShelf(shelf)) {
            return BAD;
        }
        Shelf s = shelves[shelf];
        if (s.isEmpty()) {
            return NOTHING_THERE;
        }
        if (!s.holdsRow()) {
            return OTHER_KIND;
        }
        return i < 0 || i >= s.length ? NO_PLACE : 0;
    }

    // ---- runs of many sorts

    /** Flies n TICKS, or until one of the BOXES of the bits is DEAD. */
    private void fly(Stand s, Flight f, int n, int until) {
        s.begin();
        for (int t = 0; t < n && (s.dead & until) == 0; t++) {
            ticker.tick(boxes, boxCount, s, f, t, -1);
        }
    }

    /** Flies n TICKS with a BOX that from a TICK on does nothing, and sends a fault if it is told one. */
    private void flyWithout(int box, int from, Flight f, int n, int fault) {
        tried.begin();
        for (int t = 0; t < n; t++) {
            ticker.tick(boxes, boxCount, tried, f, t, t < from ? -1 : box);
            if (t >= from && fault != 0) {
                tried.kill(box, fault);
            }
        }
    }

    private boolean goesOver(int n) {
        fly(tried, trial, n, -1);
        return tried.dead != 0;
    }

    private int unlikeBoxes() {
        int unlike = 0;
        for (int b = 0; b < boxCount; b++) {
            unlike |= plain.isLike(tried, b) ? 0 : 1 << b;
        }
        return unlike;
    }

    private boolean isReadByOthers(int box) {
        for (int b = 0; b < boxCount; b++) {
            if (b != box && boxes[b].readsFrom(box)) {
                return true;
            }
        }
        return false;
    }

    private int feltsRead() {
        int read = 0;
        for (int b = 0; b < boxCount; b++) {
            read |= boxes[b].program.feltsRead();
        }
        return read;
    }

    /** The least set of LINES that, WATCHED, keeps a BOX from being DEAD; -1: none. */
    private int bestWatches(Box b, int bits, int n) {
        Program p = b.program;
        int own = p.watches;
        int free = ~own & (1 << p.lines) - 1 & WATCH_SETS - 1;
        int best = -1;
        failures.clear();
        for (int size = 0; size <= WATCHABLE && best < 0; size++) {
            for (int set = 0; set < WATCH_SETS && best < 0; set++) {
                if (Integer.bitCount(set) != size || (set & ~free) != 0 || failures.foretell(set)) {
                    continue;
                }
                p.watches = own | set;
                if (outlives(b.number, bits, n)) {
                    best = set;
                } else {
                    failures.note(set, tried.misfits[b.number] & free);
                }
            }
        }
        p.watches = own;
        return best;
    }

    private boolean outlives(int box, int bits, int n) {
        for (int f = 0; f < flightCount; f++) {
            if ((bits >> f & 1) == 0) {
                continue;
            }
            fly(tried, flights[f], n, 1 << box);
            if (tried.faults[box] != 0) {
                return false;
            }
        }
        return true;
    }

    private int killedBy(int set) {
        int dead = 0;
        for (int f = 0; f < flightCount; f++) {
            dead |= (set >> f & 1) == 1 ? killed[f] : 0;
        }
        return dead;
    }

    private int fewestFor(int bits, int dead) {
        for (int size = 0; size < flightCount; size++) {
            for (int set = 0; set < bits; set++) {
                if (Integer.bitCount(set) == size && (set & ~bits) == 0 && killedBy(set) == dead) {
                    return set;
                }
            }
        }
        return bits;
    }

    /** Whether a PAPER's own CLAIM is so, whatever it STANDS ON. */
    private boolean isSo(int machine, int paper) {
        int k = papers.ks[paper];
        int v = papers.vs[paper];
        if (k < FELTS) {
            return spans.isWithinSize(machine, k, v);
        }
        int box = k - BOX_CLAIM;
        if (papers.sorts[paper] == 0) {
            return spans.gapsOf(machine, boxes[box]) == 0;
        }
        fly(tried, flights[v / 100], v % 100, 1 << box);
        return tried.faults[box] == 0;
    }

    /** A body of a KIND. */
    private static final class Box {
        final int number;
        final int kind;
        final int[] slotBits = new int[SLOTS];
        /** 10 times the BOX and the PORT; -1: none. */
        final int[] wires = new int[INPUTS];
        Program program = new Program();
        int twinOf = -1;

        Box(int number, int kind) {
            this.number = number;
            this.kind = kind;
            Arrays.fill(slotBits, FIRST_BITS);
            Arrays.fill(wires, -1);
        }

        boolean readsFrom(int box) {
            for (int i = 0; i < INPUTS; i++) {
                if (wires[i] >= 0 && wires[i] / 10 == box) {
                    return true;
                }
            }
            return false;
        }

        int greatestFor(int target) {
            int b = target < SLOTS ? slotBits[target] : FIRST_BITS;
            return (1 << b - 1) - 1;
        }
    }

    /** LINES as words in the order in which they are worked out, operands ahead of what joins them. */
    private static final class Program {
        final int[] words = new int[TAPE];
        final int[] testFrom = new int[LINES];
        final int[] from = new int[LINES];
        final int[] to = new int[LINES];
        final int[] targets = new int[LINES];
        int used;
        int lines;
        int catches;
        int watches;

        void clear() {
            used = 0;
            lines = 0;
            catches = 0;
            watches = 0;
        }

        void append(int what, int number) {
            if (used < TAPE) {
                words[used] = what << WORD_SHIFT | number;
                used++;
            }
        }

        boolean hasTest(int line) {
            return testFrom[line] < from[line];
        }

        int feltsRead() {
            int read = 0;
            for (int at = 0; at < used; at++) {
                read |= words[at] >> WORD_SHIFT == FELT ? 1 << (words[at] & WORD_MASK) : 0;
            }
            return read;
        }
    }

    /** THE TAPE, and how it is read as a PROGRAM. */
    private static final class Reader {
        private static final int END = -1;

        private final int[] bytes = new int[TAPE];
        int length;
        private int at;
        private boolean wrong;
        private Program into;

        void append(int b) {
            if (length < TAPE) {
                bytes[length] = b;
                length++;
            }
        }

        /** The FAULT of the text, or -1. */
        int readInto(Program p) {
            at = 0;
            wrong = false;
            into = p;
            p.clear();
            for (int l = 0; l < LINES; l++) {
                readLine(l);
                if (wrong) {
                    return at;
                }
                p.lines = l + 1;
                if (at == length) {
                    return -1;
                }
                if (!takes(';')) {
                    return at;
                }
            }
            return at;
        }

        private void readLine(int l) {
            into.catches |= takes('k') ? 1 << l : 0;
            into.testFrom[l] = into.used;
            if (takes('?')) {
                readPart(LOOSEST, 0);
                need(':');
            }
            into.from[l] = into.used;
            into.watches |= takes('!') ? 1 << l : 0;
            readTarget(l);
            need('=');
            readPart(LOOSEST, 0);
            into.to[l] = into.used;
        }

        private void readTarget(int l) {
            if (takes('r')) {
                into.targets[l] = readDigit(SLOTS);
            } else if (takes('s')) {
                into.targets[l] = PORT_TARGET + readDigit(PORTS);
            } else {
                wrong = true;
            }
        }

        /** Reads what is joined by operators of a level or a tighter one; open: how many ( and - are. */
        private void readPart(int level, int open) {
            if (level == OPERAND) {
                readOperand(open);
                return;
            }
            readPart(level + 1, open);
            int operator = operatorOf(level);
            for (int n = 0; n < TAPE && operator != 0; n++) {
                at++;
                readPart(level + 1, open);
                into.append(operator, 0);
                operator = level == COMPARISON ? 0 : operatorOf(level);
            }
        }

        private void readOperand(int open) {
            int b = next();
            if (b >= '0' && b <= '9') {
                readNumber();
            } else if (b != '-' && b != '(') {
                readName();
            } else if (open == MOST_OPEN) {
                wrong = true;
            } else if (takes('-')) {
                readOperand(open + 1);
                into.append(NEGATE, 0);
            } else if (takes('(')) {
                readPart(LOOSEST, open + 1);
                need(')');
            }
        }

        private void readNumber() {
            int v = 0;
            for (int n = 0; n < MOST_DIGITS && next() >= '0' && next() <= '9'; n++) {
                v = 10 * v + next() - '0';
                at++;
            }
            into.append(NUMBER, v);
        }

        private void readName() {
            if (takes('r')) {
                into.append(SLOT, readDigit(SLOTS));
            } else if (takes('i')) {
                into.append(INPUT, readDigit(INPUTS));
            } else if (takes('f')) {
                into.append(FELT, readDigit(FELTS));
            } else if (takes('t')) {
                into.append(TICK, 0);
            } else if (takes('e')) {
                into.append(CAUGHT, 0);
            } else {
                wrong = true;
            }
        }

        private int readDigit(int below) {
            int digit = next() - '0';
            if (digit < 0 || digit >= below) {
                wrong = true;
                return 0;
            }
            at++;
            return digit;
        }

        /** The operator of just this level that comes next; 0: none. */
        private int operatorOf(int level) {
            int b = next();
            switch (level) {
                case LOOSEST:
                    return b == '|' ? OR : 0;
                case 1:
                    return b == '&' ? AND : 0;
                case COMPARISON:
                    return b == '<' ? LESS : b == '=' ? SAME : b == '>' ? MORE : 0;
                case 3:
                    return b == '+' ? PLUS : b == '-' ? MINUS : 0;
                default:
                    return b == '*' ? TIMES : b == '/' ? QUOTIENT : b == '%' ? REST : 0;
            }
        }

        /** The byte that comes next; behind the first wrong one nothing comes any more. */
        private int next() {
            return wrong || at >= length ? END : bytes[at];
        }

        private boolean takes(int b) {
            if (next() != b) {
                return false;
            }
            at++;
            return true;
        }

        private void need(int b) {
            if (!takes(b)) {
                wrong = true;
            }
        }
    }

    /** What is FELT, by START, STEP and CAP, or from rows. */
    private static final class Flight {
        private static final int NO_ROW = -1;

        final int[] start = new int[FELTS];
        private final int[] step = new int[FELTS];
        private final int[] cap = new int[FELTS];
        private final int[] rowLength = new int[FELTS];
        private final int[][] rows = new int[FELTS][PLACES];

        Flight() {
            Arrays.fill(cap, MOST_CAP);
            Arrays.fill(rowLength, NO_ROW);
        }

        void tell(int k, int start, int step, int cap) {
            this.start[k] = start;
            this.step[k] = step;
            this.cap[k] = cap;
        }

        /** Takes STEP and CAP of another one, not its ROWS. */
        void copyCourse(Flight other) {
            System.arraycopy(other.step, 0, step, 0, FELTS);
            System.arraycopy(other.cap, 0, cap, 0, FELTS);
        }

        void leaveRow(int k) {
            rowLength[k] = NO_ROW;
        }

        /** A place that is not there, below 0 too, is where the row is missing: nothing is taken from there on. */
        int takeRow(int k, Shelf s, int from) {
            int n = s.holdsRow() && from >= 0 && from < s.length ? s.length - from : 0;
            for (int i = 0; i < n; i++) {
                rows[k][i] = s.feltFrom(from + i);
            }
            rowLength[k] = n;
            return n;
        }

        int feltAt(int k, int t) {
            int n = rowLength[k];
            if (n == 0) {
                return 0;
            }
            if (n > 0) {
                return rows[k][t < n ? t : n - 1];
            }
            int v = start[k] + t * step[k];
            return Math.max(-cap[k], Math.min(cap[k], v));
        }
    }

    /** How all BOXES stand behind a TICK. */
    private static final class Stand {
        final int[] slots = new int[BOXES * SLOTS];
        final int[] ports = new int[BOXES * PORTS];
        /** The FAULT that a DEAD BOX sends; 0 of others. */
        final int[] faults = new int[BOXES];
        final int[] deadAt = new int[BOXES];
        final int[] caught = new int[BOXES];
        /** LINES (bits) at which a number did not fit, WATCHED or not. */
        final int[] misfits = new int[BOXES];
        /** FIRST FAULT: TICK, BOX, LINE, number. */
        final int[] first = new int[4];
        int dead;

        void begin() {
            Arrays.fill(slots, 0);
            Arrays.fill(ports, 0);
            Arrays.fill(faults, 0);
            Arrays.fill(deadAt, -1);
            Arrays.fill(caught, 0);
            Arrays.fill(misfits, 0);
            dead = 0;
        }

        void fail(int box, int t, int line, int fault) {
            if (dead == 0) {
                first[0] = t;
                first[1] = box;
                first[2] = line;
                first[3] = fault;
            }
            deadAt[box] = t;
            kill(box, fault);
        }

        void kill(int box, int fault) {
            faults[box] = fault;
            dead |= 1 << box;
            // Ports that send a fault hold no number: else two dead boxes would seem unlike by old ones.
            for (int s = box * PORTS; s < box * PORTS + PORTS; s++) {
                ports[s] = 0;
            }
        }

        boolean isLike(Stand other, int box) {
            if (faults[box] != other.faults[box]) {
                return false;
            }
            for (int r = box * SLOTS; r < box * SLOTS + SLOTS; r++) {
                if (slots[r] != other.slots[r]) {
                    return false;
                }
            }
            for (int s = box * PORTS; s < box * PORTS + PORTS; s++) {
                if (ports[s] != other.ports[s]) {
                    return false;
                }
            }
            return true;
        }
    }

    /** Runs the LINES of BOXES, TICK by TICK. */
    private static final class Ticker {
        private final int[] seenPorts = new int[BOXES * PORTS];
        private final int[] seenFaults = new int[BOXES];
        private final int[] felt = new int[FELTS];
        private final long[] stack = new long[TAPE];
        private Stand stand;
        private Box box;
        private Program program;
        private int tick;
        private int caught;
        private int fault;

        /** All BOXES but the resting one (-1: none rests) do their TICK t. */
        void tick(Box[] boxes, int count, Stand s, Flight f, int t, int resting) {
            stand = s;
            tick = t;
            System.arraycopy(s.ports, 0, seenPorts, 0, seenPorts.length);
            System.arraycopy(s.faults, 0, seenFaults, 0, seenFaults.length);
            for (int k = 0; k < FELTS; k++) {
                felt[k] = f.feltAt(k, t);
            }
            for (int b = 0; b < count; b++) {
                if (b != resting && s.faults[b] == 0) {
                    doBox(boxes[b]);
                }
            }
        }

        private void doBox(Box b) {
            box = b;
            program = b.program;
            int pending = 0;
            int faultLine = 0;
            for (int l = 0; l < program.lines; l++) {
                boolean catches = (program.catches >> l & 1) == 1;
                if (catches != (pending != 0)) {
                    continue;
                }
                stand.caught[b.number] += catches ? 1 : 0;
                caught = pending;
                fault = 0;
                if (!program.hasTest(l) || workOut(program.testFrom[l], program.from[l]) != 0) {
                    send(l, workOut(program.from[l], program.to[l]));
                }
                pending = fault;
                faultLine = l;
            }
            if (pending != 0) {
                stand.fail(b.number, tick, faultLine, pending);
            }
        }

        private void send(int l, long v) {
            int target = program.targets[l];
            int greatest = box.greatestFor(target);
            long fits = Math.max(-greatest - 1, Math.min(greatest, v));
            if (fault == 0 && fits != v) {
                stand.misfits[box.number] |= 1 << l;
                fault = (program.watches >> l & 1) == 1 ? 0 : NO_FIT;
            }
            if (fault != 0) {
                return;
            }
            if (target < PORT_TARGET) {
                stand.slots[box.number * SLOTS + target] = (int) fits;
            } else {
                stand.ports[box.number * PORTS + target - PORT_TARGET] = (int) fits;
            }
        }

        /** What a part gives; once a FAULT is there nothing more is worked out, and it gives 0. */
        private long workOut(int from, int to) {
            int top = 0;
            for (int at = from; at < to && fault == 0; at++) {
                int what = program.words[at] >> WORD_SHIFT;
                int number = program.words[at] & WORD_MASK;
                if (what < NEGATE) {
                    stack[top] = what == INPUT ? inputOf(box.wires[number]) : valueOf(what, number);
                    top++;
                } else if (what == NEGATE) {
                    stack[top - 1] = -stack[top - 1];
                } else {
                    top--;
                    stack[top - 1] = join(what, stack[top - 1], stack[top]);
                }
            }
            return fault == 0 ? stack[0] : 0;
        }

        private int valueOf(int what, int number) {
            switch (what) {
                case SLOT:
                    return stand.slots[box.number * SLOTS + number];
                case FELT:
                    return felt[number];
                case TICK:
                    return tick;
                case CAUGHT:
                    return caught;
                default:
                    return number;
            }
        }

        private int inputOf(int wire) {
            if (wire < 0) {
                return 0;
            }
            int sent = seenFaults[wire / 10];
            if (sent == 0) {
                return seenPorts[wire / 10 * PORTS + wire % 10];
            }
            if (box.kind == STEERING) {
                return STEERED_FAULT + sent;
            }
            fault = FAULT_READ;
            return 0;
        }

        private long join(int what, long a, long b) {
            long v;
            switch (what) {
                case OR:
                    return a != 0 || b != 0 ? 1 : 0;
                case AND:
                    return a != 0 && b != 0 ? 1 : 0;
                case LESS:
                    return a < b ? 1 : 0;
                case SAME:
                    return a == b ? 1 : 0;
                case MORE:
                    return a > b ? 1 : 0;
                case PLUS:
                    v = a + b;
                    break;
                case MINUS:
                    v = a - b;
                    break;
                case TIMES:
                    v = a * b;
                    break;
                default:
                    if (b == 0) {
                        fault = BY_ZERO;
                        return 0;
                    }
                    return what == QUOTIENT ? a / b : a % b;
            }
            if (v > LARGEST || v < -LARGEST) {
                fault = TOO_LARGE;
            }
            return v;
        }
    }

    /** SPANS of both machines, and what they show. */
    private static final class Spans {
        private final int[] least = new int[MACHINES * FELTS];
        private final int[] greatest = new int[MACHINES * FELTS];
        private final long[] low = new long[TAPE];
        private final long[] high = new long[TAPE];
        private boolean over;

        void tell(int machine, int k, int least, int greatest) {
            this.least[machine * FELTS + k] = least;
            this.greatest[machine * FELTS + k] = greatest;
        }

        boolean isWithinSize(int machine, int k, int size) {
            return least[machine * FELTS + k] >= -size && greatest[machine * FELTS + k] <= size;
        }

        long beginnings(int machine) {
            long n = 1;
            for (int k = 0; k < FELTS; k++) {
                n *= greatest[machine * FELTS + k] - least[machine * FELTS + k] + 1;
            }
            return n;
        }

        void putFirst(int machine, int[] starts) {
            System.arraycopy(least, machine * FELTS, starts, 0, FELTS);
        }

        /** The next row of beginnings, FELT 0 counting most; false: there is none. */
        boolean putNext(int machine, int[] starts) {
            for (int k = FELTS - 1; k >= 0; k--) {
                if (starts[k] < greatest[machine * FELTS + k]) {
                    starts[k]++;
                    return true;
                }
                starts[k] = least[machine * FELTS + k];
            }
            return false;
        }

        /** Whether beginnings differ from those ahead in something that is read: else they end the same. */
        boolean isTelling(int machine, int[] starts, int read) {
            for (int k = 0; k < FELTS; k++) {
                if ((read >> k & 1) == 0 && starts[k] != least[machine * FELTS + k]) {
                    return false;
                }
            }
            return true;
        }

        int gapsOf(int machine, Box b) {
            int gaps = 0;
            for (int l = 0; l < b.program.lines; l++) {
                gaps |= shows(machine, b, l) && fits(b, l) ? 0 : 1 << l;
            }
            return gaps;
        }

        private boolean fits(Box b, int l) {
            int most = b.greatestFor(b.program.targets[l]);
            return (b.program.watches >> l & 1) == 1 || low[0] >= -most - 1 && high[0] <= most;
        }

        /** Works out the bounds of a LINE's E; false: it is OVER within. */
        boolean shows(int machine, Box b, int l) {
            Program p = b.program;
            int top = 0;
            over = false;
            for (int at = p.from[l]; at < p.to[l] && !over; at++) {
                int what = p.words[at] >> WORD_SHIFT;
                if (what < NEGATE) {
                    setName(top, machine, b, p.words[at]);
                    top++;
                } else if (what == NEGATE) {
                    set(top - 1, -high[top - 1], -low[top - 1]);
                } else {
                    top--;
                    join(what, top - 1);
                }
            }
            return !over;
        }

        int leastShown() {
            return (int) low[0];
        }

        int greatestShown() {
            return (int) high[0];
        }

        private void setName(int at, int machine, Box b, int word) {
            int number = word & WORD_MASK;
            switch (word >> WORD_SHIFT) {
                case SLOT:
                    setBits(at, b.greatestFor(number));
                    break;
                case INPUT:
                    setBits(at, b.greatestFor(PORT_TARGET));
                    break;
                case FELT:
                    set(at, least[machine * FELTS + number], greatest[machine * FELTS + number]);
                    break;
                case TICK:
                    set(at, 0, TICKS - 1);
                    break;
                case CAUGHT:
                    set(at, 0, FAULT_READ);
                    break;
                default:
                    set(at, number, number);
                    break;
            }
        }

        private void setBits(int at, int most) {
            set(at, -most - 1, most);
        }

        private void set(int at, long least, long greatest) {
            low[at] = least;
            high[at] = greatest;
            over = over || least < -LARGEST || greatest > LARGEST;
        }

        /** Joins the bounds at a place with those behind it. */
        private void join(int what, int at) {
            switch (what) {
                case PLUS:
                    set(at, low[at] + low[at + 1], high[at] + high[at + 1]);
                    break;
                case MINUS:
                    set(at, low[at] - high[at + 1], high[at] - low[at + 1]);
                    break;
                case TIMES:
                    setEnds(at, low[at] * low[at + 1], low[at] * high[at + 1],
                        high[at] * low[at + 1], high[at] * high[at + 1]);
                    break;
                case QUOTIENT:
                case REST:
                    divide(what, at);
                    break;
                default:
                    set(at, 0, 1);
                    break;
            }
        }

        private void divide(int what, int at) {
            long c = low[at + 1];
            long d = high[at + 1];
            if (c <= 0 && d >= 0) {
                over = true;
            } else if (what == REST) {
                long most = Math.max(Math.abs(c), Math.abs(d)) - 1;
                set(at, -most, most);
            } else {
                setEnds(at, low[at] / c, low[at] / d, high[at] / c, high[at] / d);
            }
        }

        private void setEnds(int at, long a, long b, long c, long d) {
            set(at, Math.min(Math.min(a, b), Math.min(c, d)), Math.max(Math.max(a, b), Math.max(c, d)));
        }
    }

    /**
     * Sets of WATCHES that failed. A run hangs on a set by those LINES alone at which a number did not fit, so
     * every other set that is the same in these fails too, and need not be flown.
     */
    private static final class Failures {
        private final int[] sets = new int[WATCH_SETS];
        private final int[] misfits = new int[WATCH_SETS];
        private int noted;

        void clear() {
            noted = 0;
        }

        void note(int set, int misfit) {
            if (noted < WATCH_SETS) {
                sets[noted] = set & misfit;
                misfits[noted] = misfit;
                noted++;
            }
        }

        boolean foretell(int set) {
            for (int i = 0; i < noted; i++) {
                if ((set & misfits[i]) == sets[i]) {
                    return true;
                }
            }
            return false;
        }
    }

    /** PAPERS, and who signed them with what before them. */
    private static final class Papers {
        private static final int UNSIGNED = -1;

        final int[] sorts = new int[PAPERS];
        final int[] ks = new int[PAPERS];
        final int[] vs = new int[PAPERS];
        /** The PAPER and all on which it STANDS, as bits. */
        final int[] along = new int[PAPERS];
        private final int[] before = new int[PERSONS * PAPERS];
        int made;

        Papers() {
            Arrays.fill(before, UNSIGNED);
        }

        int write(int sort, int k, int v, int ground) {
            sorts[made] = sort;
            ks[made] = k;
            vs[made] = v;
            along[made] = ground | 1 << made;
            return made++;
        }

        int alongOf(int paper) {
            return paper >= 0 && paper < made ? along[paper] : 0;
        }

        boolean hasSigned(int person, int paper) {
            return before[person * PAPERS + paper] != UNSIGNED;
        }

        int addSignature(int person, int paper, int bits) {
            before[person * PAPERS + paper] = bits;
            int signed = 0;
            for (int p = 0; p < PERSONS; p++) {
                signed += hasSigned(p, paper) ? 1 : 0;
            }
            return signed;
        }

        int whoSaw(int paper, int other) {
            int who = 0;
            for (int p = 0; p < PERSONS; p++) {
                who |= hasSigned(p, paper) ? (seenBy(p, paper) >> other & 1) << p : 0;
            }
            return who;
        }

        int whoIsBlind(int so) {
            int who = 0;
            for (int p = 0; p < PERSONS; p++) {
                for (int paper = 0; paper < made; paper++) {
                    if (hasSigned(p, paper) && (along[paper] & ~so) != 0 && (seenBy(p, paper) & ~so) == 0) {
                        who |= 1 << p;
                    }
                }
            }
            return who;
        }

        /** What a PERSON who signed a PAPER had before them, and what that STANDS ON. */
        private int seenBy(int person, int paper) {
            int bits = before[person * PAPERS + paper];
            int seen = 0;
            for (int p = 0; p < made; p++) {
                seen |= (bits >> p & 1) == 1 ? along[p] : 0;
            }
            return seen;
        }
    }

    /** Nothing, a BOX, or a ROW. */
    private static final class Shelf {
        private static final int NO_ROW = -1;

        /** Reals are held as 4 times what they are, which is a whole number for each that a long can give. */
        private final long[] wholes = new long[PLACES];
        /** 1: no number. */
        private final byte[] lacking = new byte[PLACES];
        int box = -1;
        int sort = NO_ROW;
        int length;

        boolean isEmpty() {
            return box < 0 && sort == NO_ROW;
        }

        boolean holdsRow() {
            return sort != NO_ROW;
        }

        boolean holdsReals() {
            return sort == FLOATS || sort == DOUBLES;
        }

        void holdBox(int number) {
            box = number;
            sort = NO_ROW;
            length = 0;
        }

        void holdRow(int ofSort, int n) {
            box = -1;
            sort = ofSort;
            length = n;
            Arrays.fill(wholes, 0L);
            Arrays.fill(lacking, (byte) 0);
        }

        boolean hasPlaces(int i, int n) {
            return i >= 0 && n >= 0 && i <= length && n <= length - i;
        }

        void set(int i, long v) {
            lacking[i] = 0;
            switch (sort) {
                case 0:
                    wholes[i] = (byte) v;
                    break;
                case 1:
                    wholes[i] = (int) v;
                    break;
                case FLOATS:
                    wholes[i] = (long) (float) v;
                    break;
                case DOUBLES:
                    wholes[i] = (long) (double) v;
                    break;
                default:
                    wholes[i] = v;
                    break;
            }
        }

        void setLacking(int i) {
            lacking[i] = 1;
        }

        long wholeAt(int i) {
            return lacking[i] == 1 ? Long.MAX_VALUE : wholes[i];
        }

        /** What is FELT of a real: the greatest whole number not above it. */
        int feltFrom(int i) {
            return lacking[i] == 1 ? 0 : (int) Math.max(-MOST_START, Math.min(MOST_START, wholes[i] >> 2));
        }

        void copyFrom(Shelf from, int i, int j, int n) {
            System.arraycopy(from.wholes, i, wholes, j, n);
            System.arraycopy(from.lacking, i, lacking, j, n);
        }
    }

    /** Bodies of acts, by KINDS. */
    private static final class Acts {
        private static final int RUNS = 0, SENDS = 1, CATCHES = 2, TELLS = 3, DEEPEST = 30;

        final int[] bodies = new int[KEPT_BODIES];
        int ran;

        /** An act of a BOX by the body of a KIND, or of the next one above that has one. */
        int perform(Box b, int act, int kind, int x, int depth) {
            if (depth > DEEPEST) {
                return 0;
            }
            int k = kind;
            for (int n = 0; n < KINDS && k > 0 && BODIES[k * ACTS + act] == 0; n++) {
                k = ABOVE[k];
            }
            if (k < 0) {
                return 0;
            }
            int body = BODIES[k * ACTS + act];
            begin(body);
            return k == 0 ? performFirst(b, body, x, depth + 1) : performAbove(b, body, x, depth + 1);
        }

        private void begin(int body) {
            if (ran < KEPT_BODIES) {
                bodies[ran] = body;
            }
            ran++;
        }

        /** Bodies of BOX and its interfaces. */
        private int performFirst(Box b, int body, int x, int depth) {
            switch (body) {
                case 1:
                    return x + b.number;
                case 10:
                    return perform(b, RUNS, b.kind, x, depth) * 2;
                case 11:
                    return x ^ b.number;
                default:
                    return perform(b, SENDS, b.kind, x, depth) - perform(b, CATCHES, b.kind, 1, depth);
            }
        }

        /** Bodies of the KINDS under BOX, each of which asks the KIND above its own. */
        private int performAbove(Box b, int body, int x, int depth) {
            switch (body) {
                case 20:
                    return perform(b, SENDS, 0, x, depth) + b.program.lines;
                case 30:
                    return perform(b, CATCHES, 0, x, depth) * 3;
                case 40:
                    return perform(b, RUNS, 0, x, depth) - 1;
                case 50:
                    return perform(b, TELLS, 0, x, depth) ^ 6;
                case 60:
                    return -perform(b, CATCHES, 4, x, depth);
                case 61:
                    return perform(b, TELLS, 4, x + 1, depth);
                case 70:
                    return perform(b, RUNS, 3, x, depth) * 5;
                default:
                    return perform(b, SENDS, 3, x, depth) - perform(b, CATCHES, b.kind, 2, depth);
            }
        }
    }
}
