import java.math.BigInteger;
import java.util.ArrayList;
import java.util.Arrays;
import java.util.List;
import java.util.Set;
import java.util.TreeSet;

/**
 * The document once more, as slowly and plainly as can be, to be held against NarrowBox: programs stay texts and
 * are read anew each time, faults are exceptions, nothing is pruned.
 */
final class Model {
    static final int BAD = -1, NOT = -2, FULL = -3, BIG = -4, STATE = -5, VOID = -2000000000;

    static final class Fault extends Exception {
        final int number;

        Fault(int number) {
            super(null, null, false, false);
            this.number = number;
        }
    }

    static final class Line {
        boolean catches;
        String test;
        boolean watch;
        String target;
        String e;
    }

    static class Box {
        int number, kind, twinOf = -1;
        int[] bits = {16, 16, 16, 16, 16, 16, 16, 16};
        int[] wires = {-1, -1, -1, -1};
        List<Line> lines = new ArrayList<>();
        Body body;
    }

    static final class Flight {
        int[] start = new int[3], step = new int[3], cap = {99999, 99999, 99999};
        int[][] row = new int[3][];
    }

    static final class Paper {
        int sort, k, v;
        List<Integer> on = new ArrayList<>();
        Integer[] before = new Integer[12];
    }

    /** How one box stands. */
    static final class One {
        int[] slots = new int[8];
        int[] ports = new int[4];
        int fault, deadAt = -1, caught;

        String seen() {
            return Arrays.toString(slots) + (fault != 0 ? "dead of " + fault : Arrays.toString(ports));
        }
    }

    private StringBuilder tape = new StringBuilder();
    private final List<Box> boxes = new ArrayList<>();
    private final List<Flight> flights = new ArrayList<>();
    private final List<Paper> papers = new ArrayList<>();
    private final int[][] least = new int[2][3], greatest = new int[2][3];
    private final Object[] shelves = new Object[6];
    private final List<Integer> trace = new ArrayList<>();
    private List<One> latest;
    private int[] latestFirst;
    private int[] first;
    private int[] began;

    // ---- boxes

    int feed(int n, int v) {
        if (n < 1 || n > 4) return BAD;
        if (tape.length() + n > 160) return FULL;
        for (int i = 0; i < n; i++) {
            tape.append((char) (v & 255));
            v >>>= 8;
        }
        return tape.length();
    }

    int box(int kind) {
        if (kind < 0 || kind > 6) return BAD;
        if (boxes.size() == 6) return FULL;
        Box b = new Box();
        b.number = boxes.size();
        b.kind = kind;
        b.body = bodyOf(kind, b);
        boxes.add(b);
        return b.number;
    }

    int program(int box) {
        if (!isBox(box)) return BAD;
        String text = tape.toString();
        tape = new StringBuilder();
        int fault = Texts.fault(text);
        if (fault >= 0) return -100 - fault;
        List<Line> lines = new ArrayList<>();
        for (String s : text.split(";")) lines.add(lineOf(s));
        boxes.get(box).lines = lines;
        return lines.size();
    }

    private static Line lineOf(String s) {
        Line l = new Line();
        if (s.startsWith("k")) {
            l.catches = true;
            s = s.substring(1);
        }
        if (s.startsWith("?")) {
            l.test = s.substring(1, s.indexOf(':'));
            s = s.substring(s.indexOf(':') + 1);
        }
        if (s.startsWith("!")) {
            l.watch = true;
            s = s.substring(1);
        }
        l.target = s.substring(0, 2);
        l.e = s.substring(3);
        return l;
    }

    int bits(int box, int slot, int b) {
        if (!isBox(box) || slot < 0 || slot > 7 || b < 2 || b > 20) return BAD;
        int was = boxes.get(box).bits[slot];
        boxes.get(box).bits[slot] = b;
        return was;
    }

    int wire(int box, int input, int from, int port) {
        if (!isBox(box) || input < 0 || input > 3) return VOID;
        if (from < -1 || from >= boxes.size()) return VOID;
        if (from >= 0 && (port < 0 || port > 3)) return VOID;
        int was = boxes.get(box).wires[input];
        boxes.get(box).wires[input] = from < 0 ? -1 : from * 10 + port;
        return was;
    }

    int line(int box, int line, int what) {
        if (!isBox(box) || line < 0 || line >= boxes.get(box).lines.size() || what < 0 || what > 3) return BAD;
        Line l = boxes.get(box).lines.get(line);
        int digit = l.target.charAt(1) - '0';
        int[] answers = {l.catches ? 1 : 0, l.test != null ? 1 : 0, l.watch ? 1 : 0,
            l.target.charAt(0) == 'r' ? digit : 10 + digit};
        return answers[what];
    }

    int watch(int box, int line, int is) {
        int was = line(box, line, 2);
        if (was == BAD || is != 0 && is != 1) return BAD;
        boxes.get(box).lines.get(line).watch = is == 1;
        return was;
    }

    // ---- flights, runs

    int flight() {
        if (flights.size() == 8) return FULL;
        flights.add(new Flight());
        return flights.size() - 1;
    }

    int felt(int fk, int start, int step, int cap) {
        if (!isFelt(fk) || Math.abs((long) start) > 99999 || Math.abs((long) step) > 999) return BAD;
        if (cap < 0 || cap > 99999) return BAD;
        Flight f = flights.get(fk / 10);
        f.start[fk % 10] = start;
        f.step[fk % 10] = step;
        f.cap[fk % 10] = cap;
        return 1;
    }

    int feltRow(int fk, int shelf, int i) {
        if (!isFelt(fk) || shelf < -1 || shelf > 5) return BAD;
        Flight f = flights.get(fk / 10);
        if (shelf == -1) {
            f.row[fk % 10] = null;
            return 0;
        }
        Object held = shelves[shelf];
        if (held != null && !(held instanceof double[]) && !(held instanceof float[])) return -12;
        List<Integer> taken = new ArrayList<>();
        int length = held instanceof double[] d ? d.length : held instanceof float[] fl ? fl.length : 0;
        for (int at = i; at >= 0 && at < length; at++) {
            double v = held instanceof double[] d ? d[at] : ((float[]) held)[at];
            v = Double.isNaN(v) ? 0 : Math.floor(v);
            taken.add((int) Math.max(-99999, Math.min(99999, v)));
        }
        f.row[fk % 10] = taken.stream().mapToInt(v -> v).toArray();
        return taken.size();
    }

    int feels(int fk, int t) {
        if (!isFelt(fk) || t < 0 || t > 199) return VOID;
        return felt(flights.get(fk / 10), fk % 10, t);
    }

    private static int felt(Flight f, int k, int t) {
        if (f.row[k] != null) {
            int[] row = f.row[k];
            return row.length == 0 ? 0 : row[Math.min(t, row.length - 1)];
        }
        int v = f.start[k] + t * f.step[k];
        if (v > f.cap[k]) v = f.cap[k];
        if (v < -f.cap[k]) v = -f.cap[k];
        return v;
    }

    int run(int flight, int n) {
        if (!isFlight(flight) || n < 1 || n > 200) return BAD;
        latest = fly(flights.get(flight), n, -1, n, 0);
        latestFirst = first;
        int dead = 0;
        for (One o : latest) if (o.fault != 0) dead++;
        return dead;
    }

    int ofRun(int box, int what) {
        if (latest == null || box < 0 || box >= latest.size()) return VOID;
        One o = latest.get(box);
        if (what >= 0 && what <= 7) return o.slots[what];
        if (what >= 10 && what <= 13) return o.fault != 0 ? VOID : o.ports[what - 10];
        if (what >= 20 && what <= 23) return o.fault;
        if (what == 30) return o.fault != 0 ? 1 : 0;
        if (what == 31) return o.deadAt;
        if (what == 32) return o.caught;
        return VOID;
    }

    int firstFault(int what) {
        if (latest == null || what < 0 || what > 3) return BAD;
        return latestFirst == null ? NOT : latestFirst[what];
    }

    /** All ticks; from a tick on one box is stopped (fault 0) or has a fault. */
    private List<One> fly(Flight f, int n, int box, int from, int fault) {
        first = null;
        List<One> now = new ArrayList<>();
        for (int b = 0; b < boxes.size(); b++) now.add(new One());
        for (int t = 0; t < n; t++) {
            int[][] sent = new int[boxes.size()][];
            int[] faults = new int[boxes.size()];
            for (int b = 0; b < boxes.size(); b++) {
                sent[b] = now.get(b).ports.clone();
                faults[b] = now.get(b).fault;
            }
            if (t >= from && fault > 0) now.get(box).fault = fault;
            for (Box b : boxes) {
                if (b.number == box && t >= from || now.get(b.number).fault != 0) continue;
                tick(b, now.get(b.number), sent, faults, f, t);
            }
        }
        return now;
    }

    private void tick(Box b, One o, int[][] sent, int[] faults, Flight f, int t) {
        int at = 0;
        int caught = 0;
        while (at < b.lines.size()) {
            Line l = b.lines.get(at);
            if (l.catches && caught == 0) {
                at++;
                continue;
            }
            try {
                doLine(b, l, o, new Eval(b, o, sent, faults, f, t, caught));
                caught = 0;
                at++;
            } catch (Fault fault) {
                int next = at + 1;
                while (next < b.lines.size() && !b.lines.get(next).catches) next++;
                if (next == b.lines.size()) {
                    o.fault = fault.number;
                    o.deadAt = t;
                    if (first == null) first = new int[] {t, b.number, at, fault.number};
                    return;
                }
                o.caught++;
                caught = fault.number;
                at = next;
            }
        }
    }

    private void doLine(Box b, Line l, One o, Eval eval) throws Fault {
        if (l.test != null && eval.of(l.test) == 0) return;
        long v = eval.of(l.e);
        int digit = l.target.charAt(1) - '0';
        boolean slot = l.target.charAt(0) == 'r';
        long most = 1L << (slot ? b.bits[digit] : 16) - 1;
        if (v >= most || v < -most) {
            if (!l.watch) throw new Fault(1);
            v = v < 0 ? -most : most - 1;
        }
        (slot ? o.slots : o.ports)[digit] = (int) v;
    }

    /** Works a text out by looking for its loosest operator, the last one of that sort. */
    final class Eval {
        final Box b;
        final One o;
        final int[][] sent;
        final int[] faults;
        final Flight f;
        final int t, e;

        Eval(Box b, One o, int[][] sent, int[] faults, Flight f, int t, int e) {
            this.b = b;
            this.o = o;
            this.sent = sent;
            this.faults = faults;
            this.f = f;
            this.t = t;
            this.e = e;
        }

        long of(String s) throws Fault {
            int at = Texts.split(s);
            if (at >= 0) {
                BigInteger a = BigInteger.valueOf(of(s.substring(0, at)));
                BigInteger c = BigInteger.valueOf(of(s.substring(at + 1)));
                return joined(s.charAt(at), a, c);
            }
            char h = s.charAt(0);
            if (h == '-') return -of(s.substring(1));
            if (h == '(') return of(s.substring(1, s.length() - 1));
            if (h == 't') return t;
            if (h == 'e') return e;
            if (h == 'r') return o.slots[s.charAt(1) - '0'];
            if (h == 'f') return felt(f, s.charAt(1) - '0', t);
            if (h == 'i') return input(b.wires[s.charAt(1) - '0']);
            return Long.parseLong(s);
        }

        private long input(int wire) throws Fault {
            if (wire < 0) return 0;
            int fault = faults[wire / 10];
            if (fault == 0) return sent[wire / 10][wire % 10];
            if (b.kind == 2) return 9000 + fault;
            throw new Fault(4);
        }

        private long joined(char op, BigInteger a, BigInteger c) throws Fault {
            switch (op) {
                case '|': return a.signum() != 0 || c.signum() != 0 ? 1 : 0;
                case '&': return a.signum() != 0 && c.signum() != 0 ? 1 : 0;
                case '<': return a.compareTo(c) < 0 ? 1 : 0;
                case '=': return a.compareTo(c) == 0 ? 1 : 0;
                case '>': return a.compareTo(c) > 0 ? 1 : 0;
                default: break;
            }
            if ((op == '/' || op == '%') && c.signum() == 0) throw new Fault(3);
            BigInteger v = op == '+' ? a.add(c) : op == '-' ? a.subtract(c) : op == '*' ? a.multiply(c)
                : op == '/' ? a.divide(c) : a.remainder(c);
            if (v.abs().compareTo(BigInteger.valueOf(1000000000)) > 0) throw new Fault(2);
            return v.longValue();
        }
    }

    int span(int mk, int from, int to) {
        if (mk < 0 || mk / 10 > 1 || mk % 10 > 2 || from > to || from < -99999 || to > 99999) return BAD;
        least[mk / 10][mk % 10] = from;
        greatest[mk / 10][mk % 10] = to;
        return 1;
    }

    int all(int machine, int flight, int n) {
        if (!isMachine(machine) || !isFlight(flight) || n < 1 || n > 200) return BAD;
        int[] lo = least[machine];
        int[] hi = greatest[machine];
        BigInteger rows = BigInteger.ONE;
        for (int k = 0; k < 3; k++) rows = rows.multiply(BigInteger.valueOf(hi[k] - lo[k] + 1));
        if (rows.compareTo(BigInteger.valueOf(2000)) > 0) return BIG;
        int ahead = 0;
        for (int a = lo[0]; a <= hi[0]; a++) {
            for (int b = lo[1]; b <= hi[1]; b++) {
                for (int c = lo[2]; c <= hi[2]; c++) {
                    Flight f = new Flight();
                    f.start = new int[] {a, b, c};
                    f.step = flights.get(flight).step;
                    f.cap = flights.get(flight).cap;
                    fly(f, n, -1, n, 0);
                    if (first != null) {
                        began = f.start;
                        return ahead;
                    }
                    ahead++;
                }
            }
        }
        return NOT;
    }

    int began(int k) {
        return began == null || k < 0 || k > 2 ? VOID : began[k];
    }

    /** Least and greatest of a text, or null: over. */
    private BigInteger[] shown(int machine, Box b, String s) {
        int at = Texts.split(s);
        if (at < 0) return shownOperand(machine, b, s);
        BigInteger[] a = shown(machine, b, s.substring(0, at));
        BigInteger[] c = shown(machine, b, s.substring(at + 1));
        if (a == null || c == null) return null;
        char op = s.charAt(at);
        if ("|&<=>".indexOf(op) >= 0) return pair(0, 1);
        boolean zero = c[0].signum() <= 0 && c[1].signum() >= 0;
        if ((op == '/' || op == '%') && zero) return null;
        if (op == '%') {
            BigInteger m = c[0].abs().max(c[1].abs()).subtract(BigInteger.ONE);
            return new BigInteger[] {m.negate(), m};
        }
        BigInteger lo = null;
        BigInteger hi = null;
        for (BigInteger x : a) {
            for (BigInteger y : c) {
                BigInteger v = op == '+' ? x.add(y) : op == '-' ? x.subtract(y) : op == '*' ? x.multiply(y)
                    : x.divide(y);
                lo = lo == null ? v : lo.min(v);
                hi = hi == null ? v : hi.max(v);
            }
        }
        BigInteger most = BigInteger.valueOf(1000000000);
        return lo.abs().compareTo(most) > 0 || hi.abs().compareTo(most) > 0 ? null : new BigInteger[] {lo, hi};
    }

    private BigInteger[] shownOperand(int machine, Box b, String s) {
        char h = s.charAt(0);
        int digit = s.length() == 2 ? s.charAt(1) - '0' : 0;
        if (h == '-') {
            BigInteger[] of = shown(machine, b, s.substring(1));
            return of == null ? null : new BigInteger[] {of[1].negate(), of[0].negate()};
        }
        if (h == '(') return shown(machine, b, s.substring(1, s.length() - 1));
        if (h == 't') return pair(0, 199);
        if (h == 'e') return pair(0, 4);
        if (h == 'r') return pair(-(1L << b.bits[digit] - 1), (1L << b.bits[digit] - 1) - 1);
        if (h == 'i') return pair(-32768, 32767);
        if (h == 'f') return pair(least[machine][digit], greatest[machine][digit]);
        return pair(Long.parseLong(s), Long.parseLong(s));
    }

    private static BigInteger[] pair(long a, long b) {
        return new BigInteger[] {BigInteger.valueOf(a), BigInteger.valueOf(b)};
    }

    private boolean isOver(int machine, Box b, Line l) {
        BigInteger[] of = shown(machine, b, l.e);
        if (of == null) return true;
        if (l.watch) return false;
        long most = 1L << (l.target.charAt(0) == 's' ? 16 : b.bits[l.target.charAt(1) - '0']) - 1;
        return of[0].longValue() < -most || of[1].longValue() > most - 1;
    }

    int gaps(int machine, int box) {
        if (!isMachine(machine) || !isBox(box)) return BAD;
        int gaps = 0;
        Box b = boxes.get(box);
        for (int l = 0; l < b.lines.size(); l++) if (isOver(machine, b, b.lines.get(l))) gaps += 1 << l;
        return gaps;
    }

    int bounds(int machine, int box, int line, int what) {
        if (!isMachine(machine) || line(box, line, 0) == BAD || what < 0 || what > 1) return VOID;
        BigInteger[] of = shown(machine, boxes.get(box), boxes.get(box).lines.get(line).e);
        return of == null ? VOID : of[what].intValueExact();
    }

    int like(int machine, int i) {
        if (!isMachine(machine)) return BAD;
        List<Integer> over = new ArrayList<>();
        for (Box b : boxes) {
            for (int l = 0; l < b.lines.size(); l++) {
                if (isOver(machine, b, b.lines.get(l))) over.add(100 * b.number + l);
            }
        }
        if (i == -1) return over.size();
        return i < 0 || i >= over.size() ? BAD : over.get(i);
    }

    // ---- faults, twins, watches

    int far(int box, int flight, int n, int ft) {
        if (!isBox(box) || !isFlight(flight) || n < 1 || n > 200 || ft < 1000 || ft >= 10000) return BAD;
        if (ft % 1000 > 199) return BAD;
        List<One> plain = fly(flights.get(flight), n, -1, n, 0);
        List<One> with = fly(flights.get(flight), n, box, ft % 1000, ft / 1000);
        return unlike(plain, with);
    }

    private static int unlike(List<One> a, List<One> b) {
        int bits = 0;
        for (int i = 0; i < a.size(); i++) if (!a.get(i).seen().equals(b.get(i).seen())) bits |= 1 << i;
        return bits;
    }

    int twin(int twin, int box) {
        if (!isBox(twin) || !isBox(box) || boxes.get(twin).kind != 1 || twin == box) return BAD;
        boxes.get(twin).twinOf = box;
        return 1;
    }

    int worth(int twin, int bits, int n) {
        if (!isBox(twin) || boxes.get(twin).kind != 1 || !areFlights(bits) || n < 1 || n > 200) return BAD;
        int of = boxes.get(twin).twinOf;
        if (of < 0) return STATE;
        int worth = 0;
        for (int f : set(bits)) {
            List<One> end = fly(flights.get(f), n, -1, n, 0);
            if (end.get(of).fault != 0 && end.get(twin).fault == 0) worth++;
        }
        return worth;
    }

    int needed(int box, int flight, int n) {
        if (!isBox(box) || !isFlight(flight) || n < 1 || n > 200) return BAD;
        List<One> plain = fly(flights.get(flight), n, -1, n, 0);
        int latestTick = NOT;
        for (int t = 0; t < n; t++) {
            int unlike = unlike(plain, fly(flights.get(flight), n, box, t, 0));
            if ((unlike & ~(1 << box)) != 0) latestTick = t;
        }
        return latestTick;
    }

    int best(int box, int bits, int tn, int what) {
        if (!isBox(box) || !areFlights(bits) || tn < 1000 || tn > 9999 || what < 0 || what > 1) return BAD;
        int n = tn % 1000;
        if (n < 1 || n > 200) return BAD;
        List<Line> lines = boxes.get(box).lines;
        int bestTime = NOT;
        int bestSet = NOT;
        for (int set = 0; set < 256; set++) {
            boolean fits = true;
            for (int l : set(set)) fits = fits && l < lines.size() && !lines.get(l).watch;
            if (!fits) continue;
            for (int l : set(set)) lines.get(l).watch = true;
            boolean alive = true;
            for (int f : set(bits)) alive = alive && fly(flights.get(f), n, -1, n, 0).get(box).fault == 0;
            for (int l : set(set)) lines.get(l).watch = false;
            int time = set(set).size() * (tn / 1000);
            if (alive && (bestSet == NOT || time < bestTime)) {
                bestSet = set;
                bestTime = time;
            }
        }
        return what == 0 ? bestTime : bestSet;
    }

    int fewest(int bits, int n, int what) {
        if (!areFlights(bits) || n < 1 || n > 200 || what < 0 || what > 1) return BAD;
        List<Set<Integer>> dead = new ArrayList<>();
        for (int f = 0; f < flights.size(); f++) {
            Set<Integer> d = new TreeSet<>();
            List<One> end = fly(flights.get(f), n, -1, n, 0);
            for (int b = 0; b < end.size(); b++) if (end.get(b).fault != 0) d.add(b);
            dead.add(d);
        }
        Set<Integer> wanted = new TreeSet<>();
        for (int f : set(bits)) wanted.addAll(dead.get(f));
        int best = -1;
        for (int set = 0; set < 256; set++) {
            if ((set & ~bits) != 0) continue;
            Set<Integer> got = new TreeSet<>();
            for (int f : set(set)) got.addAll(dead.get(f));
            if (got.equals(wanted) && (best < 0 || set(set).size() < set(best).size())) best = set;
        }
        return what == 0 ? set(best).size() : best;
    }

    // ---- papers

    int paper(int sort, int k, int v, int on) {
        if (sort != 0 && sort != 1) return BAD;
        if (k >= 0 && k <= 2) {
            if (sort == 1 || v < 0 || v > 99999) return BAD;
        } else {
            if (k < 10 || !isBox(k - 10)) return BAD;
            if (sort == 1 && (v < 0 || !isFlight(v / 100) || v % 100 == 0)) return BAD;
        }
        if (on < 0 || on > 9999) return BAD;
        Paper p = new Paper();
        for (int one : new int[] {on / 100, on % 100}) {
            if (one == 99) continue;
            if (one >= papers.size()) return BAD;
            p.on.add(one);
        }
        if (papers.size() == 20) return FULL;
        p.sort = sort;
        p.k = k;
        p.v = v;
        papers.add(p);
        return papers.size() - 1;
    }

    int holds(int machine, int paper) {
        if (!isMachine(machine) || !isPaper(paper)) return BAD;
        Paper p = papers.get(paper);
        for (int on : p.on) if (holds(machine, on) == 0) return 0;
        if (p.k <= 2) return Math.max(-least[machine][p.k], greatest[machine][p.k]) <= p.v ? 1 : 0;
        if (p.sort == 0) return gaps(machine, p.k - 10) == 0 ? 1 : 0;
        return fly(flights.get(p.v / 100), p.v % 100, -1, 100, 0).get(p.k - 10).fault == 0 ? 1 : 0;
    }

    int sign(int person, int paper, int before) {
        if (person < 0 || person > 11 || !isPaper(paper) || before < 0 || before >= 1 << papers.size()) return BAD;
        Paper p = papers.get(paper);
        if (p.before[person] != null) return STATE;
        p.before[person] = before;
        int signed = 0;
        for (Integer b : p.before) if (b != null) signed++;
        return signed;
    }

    private boolean standsOn(int paper, int other) {
        if (paper == other) return true;
        for (int on : papers.get(paper).on) if (standsOn(on, other)) return true;
        return false;
    }

    int saw(int paper, int other) {
        if (!isPaper(paper) || !isPaper(other)) return BAD;
        int who = 0;
        for (int person = 0; person < 12; person++) {
            Integer before = papers.get(paper).before[person];
            if (before == null) continue;
            for (int b : set(before)) if (standsOn(b, other)) who |= 1 << person;
        }
        return who;
    }

    int blind(int machine) {
        if (!isMachine(machine)) return BAD;
        int who = 0;
        for (int p = 0; p < papers.size(); p++) {
            if (holds(machine, p) == 1) continue;
            for (int person = 0; person < 12; person++) {
                Integer before = papers.get(p).before[person];
                if (before == null) continue;
                boolean good = true;
                for (int b : set(before)) good = good && holds(machine, b) == 1;
                if (good) who |= 1 << person;
            }
        }
        return who;
    }

    // ---- acts, shelves

    /** Bodies as classes of Java, so that Java itself finds them. */
    interface Runs {
        int n();

        void began(int body);

        default int runs(int x) {
            began(1);
            return x + n();
        }
    }

    interface Tells {
        int sends(int x);

        int catches(int x);

        void began(int body);

        default int tells(int x) {
            began(2);
            return sends(x) - catches(1);
        }
    }

    class Body implements Runs, Tells {
        Box box;

        public int n() {
            return box.number;
        }

        public void began(int body) {
            trace.add(body);
        }

        public int sends(int x) {
            began(10);
            return runs(x) * 2;
        }

        public int catches(int x) {
            began(11);
            return x ^ n();
        }
    }

    class TwinBody extends Body {
        public int sends(int x) {
            began(20);
            return super.sends(x) + box.lines.size();
        }
    }

    class SteeringBody extends Body {
        public int catches(int x) {
            began(30);
            return super.catches(x) * 3;
        }
    }

    class FeelingBody extends Body {
        public int runs(int x) {
            began(40);
            return super.runs(x) - 1;
        }
    }

    class KeptBody extends Body {
        public int tells(int x) {
            began(50);
            return super.tells(x) ^ 6;
        }
    }

    class TrimmedBody extends KeptBody {
        public int catches(int x) {
            began(60);
            return -super.catches(x);
        }

        public int tells(int x) {
            began(61);
            return super.tells(x + 1);
        }
    }

    class TriedBody extends FeelingBody {
        public int runs(int x) {
            began(70);
            return super.runs(x) * 5;
        }

        public int sends(int x) {
            began(71);
            return super.sends(x) - catches(2);
        }
    }

    private Body bodyOf(int kind, Box b) {
        Body[] all = {new Body(), new TwinBody(), new SteeringBody(), new FeelingBody(), new KeptBody(),
            new TrimmedBody(), new TriedBody()};
        all[kind].box = b;
        return all[kind];
    }

    int act(int box, int act, int x) {
        trace.clear();
        if (!isBox(box) || act < 0 || act > 3) return 0;
        Body b = boxes.get(box).body;
        return act == 0 ? b.runs(x) : act == 1 ? b.sends(x) : act == 2 ? b.catches(x) : b.tells(x);
    }

    int trace(int i) {
        return i < 0 || i >= Math.min(24, trace.size()) ? BAD : trace.get(i);
    }

    int keep(int shelf, int box) {
        if (shelf < 0 || shelf > 5 || box != -1 && !isBox(box)) return BAD;
        shelves[shelf] = box == -1 ? null : boxes.get(box);
        return 1;
    }

    int row(int shelf, int sort, int n) {
        if (shelf < 0 || shelf > 5 || sort < 0 || sort > 4 || n > 60) return BAD;
        if (n < 0) return -14;
        shelves[shelf] = sort == 0 ? new byte[n] : sort == 1 ? new int[n] : sort == 2 ? new long[n]
            : sort == 3 ? new float[n] : (Object) new double[n];
        return 1;
    }

    private int refusal(int shelf, int i) {
        if (shelf < 0 || shelf > 5) return BAD;
        if (shelves[shelf] == null) return -11;
        if (shelves[shelf] instanceof Box) return -12;
        return i < 0 || i >= java.lang.reflect.Array.getLength(shelves[shelf]) ? -13 : 0;
    }

    int put(int shelf, int i, long v) {
        int refusal = refusal(shelf, i);
        if (refusal != 0) return refusal;
        Object held = shelves[shelf];
        if (held instanceof byte[] row) row[i] = (byte) v;
        if (held instanceof int[] row) row[i] = (int) v;
        if (held instanceof long[] row) row[i] = v;
        if (held instanceof float[] row) row[i] = (float) v / 4;
        if (held instanceof double[] row) row[i] = (double) v / 4;
        return 1;
    }

    int noNumber(int shelf, int i) {
        int refusal = refusal(shelf, i);
        if (refusal == BAD || refusal == -11) return refusal;
        Object held = shelves[shelf];
        if (!(held instanceof float[]) && !(held instanceof double[])) return -12;
        if (refusal != 0) return refusal;
        if (held instanceof float[] row) row[i] = Float.NaN;
        if (held instanceof double[] row) row[i] = Double.NaN;
        return 1;
    }

    long element(int shelf, int i) {
        if (refusal(shelf, i) != 0) return Long.MIN_VALUE;
        Object held = shelves[shelf];
        if (held instanceof byte[] row) return row[i];
        if (held instanceof int[] row) return row[i];
        if (held instanceof long[] row) return row[i];
        double v = held instanceof float[] row ? row[i] : ((double[]) held)[i];
        return Double.isNaN(v) ? Long.MAX_VALUE : (long) Math.floor(4 * v);
    }

    int shift(int shelf, int i, int other, int j, int n) {
        if (shelf < 0 || shelf > 5 || other < 0 || other > 5) return BAD;
        Object from = shelves[shelf];
        Object to = shelves[other];
        if (from == null || to == null) return -11;
        if (from instanceof Box || from.getClass() != to.getClass()) return -12;
        try {
            System.arraycopy(from, i, to, j, n);
        } catch (IndexOutOfBoundsException e) {
            return -13;
        }
        return n;
    }

    int taken(int shelf, int k) {
        if (shelf < 0 || shelf > 5 || k < 0 || k > 6) return BAD;
        if (shelves[shelf] == null) return -11;
        if (!(shelves[shelf] instanceof Box b)) return -12;
        return bodyOf(k, b).getClass().isInstance(b.body) ? b.kind : -12;
    }

    int count(int what) {
        if (what < 0 || what > 4) return BAD;
        int[] counts = {boxes.size(), flights.size(), papers.size(), tape.length(), trace.size()};
        return counts[what];
    }

    // ---- numbers

    private boolean isBox(int b) {
        return b >= 0 && b < boxes.size();
    }

    private boolean isFlight(int f) {
        return f >= 0 && f < flights.size();
    }

    private boolean areFlights(int bits) {
        return bits >= 0 && bits < 1 << flights.size();
    }

    private boolean isFelt(int fk) {
        return fk >= 0 && isFlight(fk / 10) && fk % 10 <= 2;
    }

    private boolean isPaper(int p) {
        return p >= 0 && p < papers.size();
    }

    private static boolean isMachine(int m) {
        return m == 0 || m == 1;
    }

    private static List<Integer> set(int bits) {
        List<Integer> list = new ArrayList<>();
        for (int i = 0; i < 31; i++) if ((bits >> i & 1) == 1) list.add(i);
        return list;
    }

    /** Texts of programs: which are such, and where one that is not goes wrong. */
    static final class Texts {
        private final String s;
        private int at;

        private Texts(String s) {
            this.s = s;
        }

        /** The place of the first byte with which no program goes on, found by trying what could go on. */
        static int fault(String text) {
            if (isProgram(text)) return -1;
            int lines = 0;
            for (int i = 0; i < text.length(); i++) {
                if (!goesOn(text.substring(0, i + 1))) return i;
                if (text.charAt(i) == ';' && ++lines == 12) return i + 1;
            }
            return text.length();
        }

        private static boolean goesOn(String start) {
            // The twelfth ; is allowed for by one line less: what a thirteenth line is told by is its first byte.
            int cut = start.indexOf(';');
            String s = cut >= 0 && start.chars().filter(c -> c == ';').count() == 12 ? start.substring(cut + 1)
                : start;
            for (String mid : new String[] {"", "1", "t"}) {
                for (int closed = 0; closed <= 6; closed++) {
                    for (String end : new String[] {"", ":r0=1", "r0=1", "0=1", "=1"}) {
                        if (isProgram(s + mid + ")".repeat(closed) + end)) return true;
                    }
                }
            }
            return false;
        }

        static boolean isProgram(String text) {
            String[] lines = text.split(";", -1);
            if (lines.length > 12) return false;
            for (String l : lines) if (!isLine(l)) return false;
            return true;
        }

        private static boolean isLine(String l) {
            if (l.startsWith("k")) l = l.substring(1);
            if (l.startsWith("?")) {
                int colon = l.indexOf(':');
                if (colon < 0 || !isE(l.substring(1, colon))) return false;
                l = l.substring(colon + 1);
            }
            if (l.startsWith("!")) l = l.substring(1);
            return l.length() > 3 && l.substring(0, 3).matches("(r[0-7]|s[0-3])=") && isE(l.substring(3));
        }

        private static boolean isE(String s) {
            Texts t = new Texts(s);
            return t.e(0) && t.at == s.length();
        }

        private boolean is(String any) {
            return at < s.length() && any.indexOf(s.charAt(at)) >= 0;
        }

        private boolean e(int open) {
            do {
                do {
                    if (!sum(open)) return false;
                    if (is("<=>")) {
                        at++;
                        if (!sum(open)) return false;
                    }
                } while (is("&") && at++ >= 0);
            } while (is("|") && at++ >= 0);
            return true;
        }

        private boolean sum(int open) {
            do {
                do {
                    if (!operand(open)) return false;
                } while (is("*/%") && at++ >= 0);
            } while (is("+-") && at++ >= 0);
            return true;
        }

        private boolean operand(int open) {
            java.util.regex.Matcher m = java.util.regex.Pattern
                .compile("[0-9]{1,5}(?![0-9])|r[0-7]|i[0-3]|f[0-2]|t|e").matcher(s).region(at, s.length());
            if (m.lookingAt()) {
                at = m.end();
                return true;
            }
            if (open == 6) return false;
            if (is("-")) {
                at++;
                return operand(open + 1);
            }
            if (!is("(")) return false;
            at++;
            if (!e(open + 1) || !is(")")) return false;
            at++;
            return true;
        }

        /** Where the last operator of the loosest sort stands outside of all ( ); -1: there is none. */
        static int split(String s) {
            int found = -1;
            int loosest = 9;
            int open = 0;
            boolean behindOperand = false;
            for (int i = 0; i < s.length(); i++) {
                char c = s.charAt(i);
                open += c == '(' ? 1 : c == ')' ? -1 : 0;
                int level = c == '|' ? 0 : c == '&' ? 1 : "<=>".indexOf(c) >= 0 ? 2 : "+-".indexOf(c) >= 0 ? 3
                    : "*/%".indexOf(c) >= 0 ? 4 : 9;
                if (open == 0 && behindOperand && level <= loosest && level < 9) {
                    found = i;
                    loosest = level;
                }
                behindOperand = level == 9 && c != '(';
            }
            return found;
        }
    }
}
