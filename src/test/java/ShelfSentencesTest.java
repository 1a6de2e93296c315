/** Part 5 of the terms, sentence by sentence: acts and their trace, shelves and their elements, counts. */
public final class ShelfSentencesTest {
    private static final Due DUE = new Due();
    private static final int BAD = NarrowBox.BAD;
    private static final int NOTHING = -11, KIND = -12, PLACE = -13, SIZE = -14;
    private static final int RUNS = 0, SENDS = 1, CATCHES = 2, TELLS = 3;

    public static void main(String[] args) {
        numberAndLines();
        wraps();
        bodies();
        ownKindOrAbove();
        trace();
        traceOfTheLatest();
        noSuchAct();
        atFirst();
        keep();
        keepTakesTheRowAway();
        row();
        rowIsNew();
        rowSizes();
        lowestBits();
        longs();
        quarters();
        nearest();
        noNumber();
        noNumberOfOthers();
        putRefused();
        element();
        shift();
        shiftAsTheyWere();
        shiftNone();
        shiftOfEachSort();
        shiftRefused();
        taken();
        counts();
        DUE.end();
    }

    /** A box of a kind as the told number, with so many lines. */
    private static NarrowBox acting(int kind, int number, int lines) {
        NarrowBox x = new NarrowBox();
        for (int b = 0; b < number; b++) x.box((kind + b + 1) % 7);
        x.box(kind);
        if (lines > 0) Due.program(x, number, "r0=1" + ";r0=1".repeat(lines - 1));
        return x;
    }

    private static void numberAndLines() {
        DUE.says("n its number, l how many LINES it has (0 without)");
        for (int n = 0; n < 6; n++) {
            for (int l : new int[] {0, 1, 2, 12}) {
                NarrowBox x = acting(1, n, l);
                DUE.is("runs", x.act(n, RUNS, 100), 100 + n);
                DUE.is("sends", x.act(n, SENDS, 100), 2 * (100 + n) + l);
                DUE.is("catches", x.act(n, CATCHES, 100), 100 ^ n);
                DUE.is("tells", x.act(n, TELLS, 100), 2 * (100 + n) + l - (1 ^ n));
            }
        }
        NarrowBox x = acting(1, 0, 3);
        Due.program(x, 0, "r0=1;x");
        DUE.is("a text with a fault leaves its lines", x.act(0, SENDS, 0), 3);
    }

    private static void wraps() {
        DUE.says("ACTS of BOXES with x (an int that wraps)");
        int[] ends = {Integer.MIN_VALUE, Integer.MIN_VALUE + 1, -1, 0, 1, 1 << 30, Integer.MAX_VALUE - 1, Integer.MAX_VALUE};
        for (int v : ends) {
            int runs = v + 5;
            DUE.is("runs", acting(0, 5, 0).act(5, RUNS, v), runs);
            DUE.is("sends", acting(0, 5, 0).act(5, SENDS, v), runs * 2);
            DUE.is("catches", acting(0, 5, 0).act(5, CATCHES, v), v ^ 5);
            DUE.is("tells", acting(0, 5, 0).act(5, TELLS, v), runs * 2 - 4);
            DUE.is("a TWIN sends", acting(1, 5, 12).act(5, SENDS, v), runs * 2 + 12);
            DUE.is("STEERING catches", acting(2, 5, 0).act(5, CATCHES, v), (v ^ 5) * 3);
            DUE.is("FEELING runs", acting(3, 5, 0).act(5, RUNS, v), runs - 1);
            DUE.is("KEPT tells", acting(4, 5, 0).act(5, TELLS, v), runs * 2 - 4 ^ 6);
            DUE.is("TRIMMED catches", acting(5, 5, 0).act(5, CATCHES, v), -(v ^ 5));
            DUE.is("TRIMMED tells", acting(5, 5, 0).act(5, TELLS, v), (v + 1 + 5) * 2 + 4 ^ 6);
            DUE.is("TRIED runs", acting(6, 5, 0).act(5, RUNS, v), (runs - 1) * 5);
            DUE.is("TRIED sends", acting(6, 5, 0).act(5, SENDS, v), (runs - 1) * 10 - 7);
        }
    }

    private static void traceIs(int kind, int act, int... bodies) {
        NarrowBox x = acting(kind, 3, 4);
        x.act(3, act, 9);
        DUE.is("how many ran", x.count(4), bodies.length);
        for (int i = 0; i < bodies.length; i++) DUE.is("kind " + kind + " act " + act + " body " + i, x.trace(i), bodies[i]);
        DUE.is("no more", x.trace(bodies.length), BAD);
        DUE.is("none below", x.trace(-1), BAD);
    }

    private static void bodies() {
        DUE.says("BODIES of acts: RUNS (an interface of BOX): 1 runs: x + n. BOX: 10 sends: runs(x) * 2. 11 catches: x ^ n. TELLS (of BOX): 2 tells: sends(x) - catches(1).");
        traceIs(0, RUNS, 1);
        traceIs(0, SENDS, 10, 1);
        traceIs(0, CATCHES, 11);
        traceIs(0, TELLS, 2, 10, 1, 11);
        DUE.says("TWIN: 20 sends: super.sends(x) + l. STEERING: 30 catches: super.catches(x) * 3. FEELING: 40 runs: super.runs(x) - 1. KEPT: 50 tells: super.tells(x) ^ 6.");
        traceIs(1, SENDS, 20, 10, 1);
        traceIs(2, CATCHES, 30, 11);
        traceIs(3, RUNS, 40, 1);
        traceIs(4, TELLS, 50, 2, 10, 1, 11);
        DUE.says("TRIMMED: 60 catches: -super.catches(x). 61 tells: super.tells(x + 1). TRIED: 70 runs: super.runs(x) * 5. 71 sends: super.sends(x) - catches(2).");
        traceIs(5, CATCHES, 60, 11);
        traceIs(5, TELLS, 61, 50, 2, 10, 1, 60, 11);
        traceIs(6, RUNS, 70, 40, 1);
        traceIs(6, SENDS, 71, 10, 70, 40, 1, 11);
    }

    private static void ownKindOrAbove() {
        DUE.says("runs(..) and so on: the body of its own KIND, or of the next KIND above that has one; super: from the KIND above the body's on.");
        traceIs(1, RUNS, 1);
        traceIs(1, CATCHES, 11);
        traceIs(1, TELLS, 2, 20, 10, 1, 11);
        traceIs(2, RUNS, 1);
        traceIs(2, SENDS, 10, 1);
        traceIs(2, TELLS, 2, 10, 1, 30, 11);
        traceIs(3, SENDS, 10, 40, 1);
        traceIs(3, CATCHES, 11);
        traceIs(3, TELLS, 2, 10, 40, 1, 11);
        traceIs(4, RUNS, 1);
        traceIs(4, SENDS, 10, 1);
        traceIs(4, CATCHES, 11);
        traceIs(5, RUNS, 1);
        traceIs(5, SENDS, 10, 1);
        traceIs(6, CATCHES, 11);
        traceIs(6, TELLS, 2, 71, 10, 70, 40, 1, 11, 11);
    }

    private static void trace() {
        DUE.says("THE TRACE: numbers of the bodies that ran in the latest act(), as they began; the first 24 are kept.");
        NarrowBox x = acting(6, 3, 0);
        DUE.is("none ran yet", x.trace(0), BAD);
        x.act(3, TELLS, 9);
        for (int i : new int[] {-1, 8, 9, 23, 24, 25, Integer.MIN_VALUE, Integer.MAX_VALUE}) DUE.is("none such", x.trace(i), BAD);
        DUE.is("the first", x.trace(0), 2);
        DUE.is("the last", x.trace(7), 11);
    }

    private static void traceOfTheLatest() {
        DUE.says("in the latest act()");
        NarrowBox x = acting(6, 3, 0);
        for (int again = 0; again < 5; again++) {
            x.act(3, TELLS, 9);
            DUE.is("eight", x.count(4), 8);
            x.act(3, RUNS, 9);
            DUE.is("three", x.count(4), 3);
            DUE.is("the first of three", x.trace(0), 70);
            DUE.is("nothing is left of the eight", x.trace(3), BAD);
        }
    }

    private static void noSuchAct() {
        DUE.says("0, and no TRACE then: no such BOX, ACT.");
        int[][] none = {{4, 0}, {-1, 0}, {Integer.MIN_VALUE, 0}, {Integer.MAX_VALUE, 0}, {3, 4}, {3, -1}, {3, Integer.MIN_VALUE},
            {3, Integer.MAX_VALUE}, {4, 4}};
        for (int[] n : none) {
            NarrowBox x = acting(6, 3, 0);
            x.act(3, TELLS, 9);
            DUE.is("no such", x.act(n[0], n[1], 9), 0);
            DUE.is("none ran", x.count(4), 0);
            for (int i = 0; i < 8; i++) DUE.is("no trace", x.trace(i), BAD);
        }
        NarrowBox x = new NarrowBox();
        for (int act = 0; act < 4; act++) DUE.is("no boxes", x.act(0, act, 5), 0);
    }

    private static void atFirst() {
        DUE.says("SHELVES 0 .. 5 each hold nothing (at first), a BOX, or a ROW");
        NarrowBox x = new NarrowBox();
        for (int shelf = 0; shelf < 6; shelf++) {
            DUE.is("taken", x.taken(shelf, 0), NOTHING);
            DUE.is("put", x.put(shelf, 0, 1), NOTHING);
            DUE.is("noNumber", x.noNumber(shelf, 0), NOTHING);
            DUE.is("element", x.element(shelf, 0), Long.MIN_VALUE);
            DUE.is("shift", x.shift(shelf, 0, shelf, 0, 0), NOTHING);
        }
        for (int shelf : new int[] {-1, 6, Integer.MIN_VALUE, Integer.MAX_VALUE}) {
            DUE.is("taken", x.taken(shelf, 0), BAD);
            DUE.is("put", x.put(shelf, 0, 1), BAD);
            DUE.is("noNumber", x.noNumber(shelf, 0), BAD);
            DUE.is("element", x.element(shelf, 0), Long.MIN_VALUE);
            DUE.is("shift from", x.shift(shelf, 0, 0, 0, 0), BAD);
            DUE.is("shift to", x.shift(0, 0, shelf, 0, 0), BAD);
            DUE.is("keep", x.keep(shelf, -1), BAD);
            DUE.is("row", x.row(shelf, 0, 1), BAD);
        }
    }

    private static void keep() {
        DUE.says("A SHELF holds nothing (box -1), or a BOX: 1. BAD.");
        for (int boxes = 0; boxes <= 6; boxes++) {
            NarrowBox x = new NarrowBox();
            for (int b = 0; b < boxes; b++) x.box(b);
            for (int shelf = 0; shelf < 6; shelf++) {
                for (int b = 0; b < boxes; b++) {
                    DUE.is("keep", x.keep(shelf, b), 1);
                    DUE.is("its kind", x.taken(shelf, b), b);
                }
                for (int none : new int[] {boxes, -2, Integer.MIN_VALUE, Integer.MAX_VALUE}) DUE.is("no such box", x.keep(shelf, none), BAD);
                DUE.is("what was there", x.taken(shelf, 0), boxes == 0 ? NOTHING : boxes - 1);
                DUE.is("nothing", x.keep(shelf, -1), 1);
                DUE.is("nothing is there", x.taken(shelf, 0), NOTHING);
                DUE.is("nothing again", x.keep(shelf, -1), 1);
            }
        }
    }

    private static void keepTakesTheRowAway() {
        DUE.says("each hold nothing (at first), a BOX, or a ROW");
        for (int sort = 0; sort < 5; sort++) {
            for (int n : new int[] {0, 3}) {
                NarrowBox x = new NarrowBox();
                x.flight();
                x.box(0);
                x.row(2, sort, n);
                DUE.is("a row", x.put(2, n, 1), PLACE);
                DUE.is("a row is no box", x.taken(2, 0), KIND);
                x.keep(2, 0);
                DUE.is("a box: put", x.put(2, 0, 1), KIND);
                DUE.is("a box: put beyond", x.put(2, 99, 1), KIND);
                DUE.is("a box: noNumber", x.noNumber(2, 0), KIND);
                DUE.is("a box: element", x.element(2, 0), Long.MIN_VALUE);
                DUE.is("a box: shift", x.shift(2, 0, 2, 0, 0), KIND);
                DUE.is("a box: feltRow", x.feltRow(0, 2, 0), KIND);
                DUE.is("a box: taken", x.taken(2, 0), 0);
                x.row(2, sort, n);
                DUE.is("a row again is no box", x.taken(2, 0), KIND);
                DUE.is("of so many", x.put(2, n, 1), PLACE);
                x.keep(2, -1);
                DUE.is("nothing: put", x.put(2, 0, 1), NOTHING);
                DUE.is("nothing: noNumber", x.noNumber(2, 0), NOTHING);
                DUE.is("nothing: element", x.element(2, 0), Long.MIN_VALUE);
                DUE.is("nothing: shift", x.shift(2, 0, 2, 0, 0), NOTHING);
                DUE.is("nothing: feltRow", x.feltRow(0, 2, 0), 0);
                DUE.is("nothing: taken", x.taken(2, 0), NOTHING);
            }
        }
    }

    private static void row() {
        DUE.says("a ROW: of 0 bytes, 1 ints, 2 longs, 3 floats, 4 doubles, of 0 .. 60 elements, 0 at first");
        for (int sort = 0; sort < 5; sort++) {
            for (int n : new int[] {0, 1, 2, 59, 60}) {
                NarrowBox x = new NarrowBox();
                DUE.is("row", x.row(1, sort, n), 1);
                for (int i = 0; i < n; i++) DUE.is("0 at first", x.element(1, i), 0);
                DUE.is("behind the end", x.element(1, n), Long.MIN_VALUE);
                DUE.is("put behind the end", x.put(1, n, 1), PLACE);
                DUE.is("put below", x.put(1, -1, 1), PLACE);
                if (n > 0) DUE.is("put at the end", x.put(1, n - 1, 5), 1);
                if (n > 0) DUE.is("it is there", x.element(1, n - 1), 5);
            }
        }
    }

    private static void rowIsNew() {
        DUE.says("of 0 .. 60 elements, 0 at first");
        for (int sort = 0; sort < 5; sort++) {
            for (int next = 0; next < 5; next++) {
                NarrowBox x = new NarrowBox();
                x.row(0, sort, 60);
                for (int i = 0; i < 60; i++) x.put(0, i, i + 1);
                if (sort > 2) x.noNumber(0, 7);
                x.row(0, next, 60);
                for (int i = 0; i < 60; i++) DUE.is("0 again", x.element(0, i), 0);
                x.row(0, next, 8);
                x.row(0, next, 9);
                DUE.is("of a longer one", x.element(0, 8), 0);
                DUE.is("its end", x.element(0, 9), Long.MIN_VALUE);
            }
        }
    }

    private static void rowSizes() {
        DUE.says("A SHELF holds a ROW: 1. BAD (sort, n above 60); -14.");
        for (int sort : new int[] {-1, 0, 1, 2, 3, 4, 5, Integer.MIN_VALUE, Integer.MAX_VALUE}) {
            boolean isSort = sort >= 0 && sort <= 4;
            for (int n : new int[] {Integer.MIN_VALUE, -61, -2, -1, 0, 1, 59, 60, 61, 62, Integer.MAX_VALUE}) {
                NarrowBox x = new NarrowBox();
                x.row(0, 1, 2);
                x.put(0, 1, 77);
                int want = !isSort || n > 60 ? BAD : n < 0 ? SIZE : 1;
                DUE.is("sort " + sort + " of " + n, x.row(0, sort, n), want);
                if (want != 1) DUE.is("what was there", x.element(0, 1), 77);
                if (want != 1) DUE.is("no longer", x.put(0, 2, 1), PLACE);
            }
        }
    }

    private static void lowestBits() {
        DUE.says("what is put in comes as a long: bytes and ints keep its lowest bits");
        NarrowBox x = new NarrowBox();
        x.row(0, 0, 1);
        x.row(1, 1, 1);
        long[] puts = {0, 1, -1, 127, 128, 129, 255, 256, 383, 384, -127, -128, -129, -256, -257, Integer.MAX_VALUE, Integer.MIN_VALUE,
            (1L << 31), (1L << 31) + 200, (1L << 32) - 1, 1L << 32, (1L << 32) + 128, -(1L << 31) - 1, Long.MAX_VALUE, Long.MIN_VALUE,
            Long.MAX_VALUE - 128};
        for (long v : puts) {
            long b = Math.floorMod(v, 256L);
            long i = Math.floorMod(v, 1L << 32);
            DUE.is("put", x.put(0, 0, v) + x.put(1, 0, v), 2);
            DUE.is("a byte of " + v, x.element(0, 0), b > 127 ? b - 256 : b);
            DUE.is("an int of " + v, x.element(1, 0), i > Integer.MAX_VALUE ? i - (1L << 32) : i);
        }
    }

    private static void longs() {
        DUE.says("Element i of a ROW becomes v: 1.");
        NarrowBox x = new NarrowBox();
        x.row(0, 2, 60);
        long[] puts = {0, -1, Long.MAX_VALUE, Long.MAX_VALUE - 1, Long.MIN_VALUE, Long.MIN_VALUE + 1, 1L << 32, 1L << 53, (1L << 53) + 1};
        for (int i = 0; i < puts.length; i++) DUE.is("put", x.put(0, 59 - i, puts[i]), 1);
        for (int i = 0; i < puts.length; i++) DUE.is("a long", x.element(0, 59 - i), puts[i]);
        DUE.is("others stay", x.element(0, 59 - puts.length), 0);
    }

    private static void quarters() {
        DUE.says("floats and doubles hold a quarter of it (as the nearest one)");
        NarrowBox x = new NarrowBox();
        x.flight();
        for (int sort = 3; sort <= 4; sort++) {
            x.row(0, sort, 1);
            for (long v = -9; v <= 9; v++) {
                x.put(0, 0, v);
                DUE.is("4 times a quarter", x.element(0, 0), v);
                x.feltRow(0, 0, 0);
                DUE.is("the quarter is felt", x.feels(0, 0), Math.floorDiv(v, 4L));
            }
        }
    }

    private static void realIs(int sort, long put, long want) {
        NarrowBox x = new NarrowBox();
        x.row(0, sort, 1);
        x.put(0, 0, put);
        DUE.is("sort " + sort + " of " + put, x.element(0, 0), want);
    }

    private static void nearest() {
        DUE.says("floats and doubles hold a quarter of it (as the nearest one)");
        long f = 1L << 24;
        long d = 1L << 53;
        for (int sign = -1; sign <= 1; sign += 2) {
            long[][] floats = {{f - 1, f - 1}, {f, f}, {f + 1, f}, {f + 2, f + 2}, {f + 3, f + 4}, {2 * f + 2, 2 * f}, {2 * f + 3, 2 * f + 4},
                {2 * f + 6, 2 * f + 8}, {d + 1, d}, {(1L << 60) + (1L << 36), 1L << 60}, {(1L << 60) + (1L << 36) + 1, (1L << 60) + (1L << 37)}};
            for (long[] v : floats) realIs(3, sign * v[0], sign * v[1]);
            long[][] doubles = {{f + 1, f + 1}, {d - 1, d - 1}, {d, d}, {d + 1, d}, {d + 2, d + 2}, {d + 3, d + 4}, {2 * d + 2, 2 * d},
                {2 * d + 3, 2 * d + 4}, {2 * d + 6, 2 * d + 8}, {(1L << 62) + 256, 1L << 62}, {(1L << 62) + 513, (1L << 62) + 1024}};
            for (long[] v : doubles) realIs(4, sign * v[0], sign * v[1]);
        }
        for (int sort = 3; sort <= 4; sort++) {
            realIs(sort, Long.MIN_VALUE, Long.MIN_VALUE);
            realIs(sort, Long.MIN_VALUE + 1, Long.MIN_VALUE);
            realIs(sort, Long.MAX_VALUE, Long.MAX_VALUE);
            realIs(sort, Long.MAX_VALUE - 1, Long.MAX_VALUE);
        }
        realIs(4, Long.MAX_VALUE - 511, Long.MAX_VALUE);
        realIs(4, Long.MAX_VALUE - 512, Long.MAX_VALUE - 1023);
        realIs(3, Long.MAX_VALUE - (1L << 38) + 1, Long.MAX_VALUE);
        realIs(3, Long.MAX_VALUE - (1L << 38), Long.MAX_VALUE - (1L << 39) + 1);
    }

    private static void noNumber() {
        DUE.says("Element i of a ROW of floats, doubles becomes no number: 1. BAD, -11, -12, -13.");
        for (int sort = 3; sort <= 4; sort++) {
            for (int n : new int[] {1, 60}) {
                NarrowBox x = new NarrowBox();
                x.row(5, sort, n);
                for (int i : new int[] {0, n - 1}) {
                    DUE.is("no number", x.noNumber(5, i), 1);
                    DUE.is("it is none", x.element(5, i), Long.MAX_VALUE);
                    DUE.is("once more", x.noNumber(5, i), 1);
                    DUE.is("a number again", x.put(5, i, 0), 1);
                    DUE.is("it is one", x.element(5, i), 0);
                }
                for (int i : new int[] {-1, n, n + 1, Integer.MIN_VALUE, Integer.MAX_VALUE}) DUE.is("no such place", x.noNumber(5, i), PLACE);
            }
            NarrowBox x = new NarrowBox();
            x.row(5, sort, 0);
            DUE.is("no places", x.noNumber(5, 0), PLACE);
        }
    }

    private static void noNumberOfOthers() {
        DUE.says("Element i of a ROW of floats, doubles becomes no number: 1. BAD, -11, -12, -13.");
        for (int sort = 0; sort < 3; sort++) {
            NarrowBox x = new NarrowBox();
            x.box(0);
            x.row(0, sort, 2);
            x.put(0, 1, 7);
            x.keep(1, 0);
            for (int i : new int[] {-1, 0, 1, 2, 60, Integer.MIN_VALUE, Integer.MAX_VALUE}) {
                DUE.is("of sort " + sort, x.noNumber(0, i), KIND);
                DUE.is("a box", x.noNumber(1, i), KIND);
                DUE.is("nothing", x.noNumber(2, i), NOTHING);
                DUE.is("no shelf", x.noNumber(6, i), BAD);
                DUE.is("none below", x.noNumber(-1, i), BAD);
            }
            DUE.is("it is as it was", x.element(0, 1), 7);
        }
    }

    private static void putRefused() {
        DUE.says("Element i of a ROW becomes v: 1. BAD, -11, -12, -13.");
        NarrowBox x = new NarrowBox();
        x.box(0);
        x.keep(1, 0);
        x.row(0, 2, 3);
        for (int i = 0; i < 3; i++) x.put(0, i, i + 5);
        for (int i : new int[] {-1, 3, 4, 60, Integer.MIN_VALUE, Integer.MAX_VALUE}) {
            DUE.is("no such place", x.put(0, i, 9), PLACE);
            DUE.is("a box", x.put(1, i, 9), KIND);
            DUE.is("nothing", x.put(2, i, 9), NOTHING);
            DUE.is("no shelf", x.put(6, i, 9), BAD);
            DUE.is("none below", x.put(-1, i, 9), BAD);
        }
        for (int i = 0; i < 3; i++) DUE.is("nothing was changed", x.element(0, i), i + 5);
    }

    private static void element() {
        DUE.says("(of floats, doubles: the greatest whole number not above 4 times it; no number: Long.MAX_VALUE); Long.MIN_VALUE: BAD, -11 to -13.");
        NarrowBox x = new NarrowBox();
        x.box(0);
        x.keep(1, 0);
        x.row(0, 4, 2);
        x.put(0, 0, -1);
        x.noNumber(0, 1);
        DUE.is("a number", x.element(0, 0), -1);
        DUE.is("no number", x.element(0, 1), Long.MAX_VALUE);
        int[][] none = {{0, 2}, {0, -1}, {0, Integer.MIN_VALUE}, {0, Integer.MAX_VALUE}, {1, 0}, {2, 0}, {6, 0}, {-1, 0}};
        for (int[] n : none) DUE.is("none", x.element(n[0], n[1]), Long.MIN_VALUE);
    }

    private static void fill(NarrowBox x, int shelf, int sort, int n, int first) {
        x.row(shelf, sort, n);
        for (int i = 0; i < n; i++) x.put(shelf, i, first + i);
    }

    private static void shift() {
        DUE.says("n elements of a ROW from i on come to another one (or the same) from j on, as they all were before: n.");
        for (int i = 0; i <= 6; i++) {
            for (int j = 0; j <= 5; j++) {
                for (int n = 0; n <= 6; n++) {
                    boolean fits = i + n <= 5 && j + n <= 4;
                    NarrowBox x = new NarrowBox();
                    fill(x, 0, 2, 5, 10);
                    fill(x, 1, 2, 4, 20);
                    DUE.is(n + " from " + i + " to " + j, x.shift(0, i, 1, j, n), fits ? n : PLACE);
                    for (int at = 0; at < 4; at++) {
                        boolean came = fits && at >= j && at < j + n;
                        DUE.is("element " + at, x.element(1, at), came ? 10 + i + at - j : 20 + at);
                    }
                    for (int at = 0; at < 5; at++) DUE.is("it stays there", x.element(0, at), 10 + at);
                    DUE.is("no longer", x.element(1, 4), Long.MIN_VALUE);
                }
            }
        }
    }

    private static void shiftAsTheyWere() {
        DUE.says("(or the same) from j on, as they all were before");
        for (int i = 0; i <= 6; i++) {
            for (int j = 0; j <= 6; j++) {
                for (int n = 0; n <= 6; n++) {
                    boolean fits = i + n <= 6 && j + n <= 6;
                    NarrowBox x = new NarrowBox();
                    fill(x, 0, 4, 6, 10);
                    x.noNumber(0, 3);
                    DUE.is(n + " from " + i + " to " + j, x.shift(0, i, 0, j, n), fits ? n : PLACE);
                    for (int at = 0; at < 6; at++) {
                        int from = fits && at >= j && at < j + n ? i + at - j : at;
                        DUE.is("element " + at, x.element(0, at), from == 3 ? Long.MAX_VALUE : 10 + from);
                    }
                }
            }
        }
    }

    private static void shiftNone() {
        DUE.says("-13 (n below 0, too)");
        NarrowBox x = new NarrowBox();
        fill(x, 0, 0, 3, 5);
        x.row(1, 0, 0);
        DUE.is("none of none", x.shift(1, 0, 1, 0, 0), 0);
        DUE.is("none to the end", x.shift(1, 0, 0, 3, 0), 0);
        DUE.is("none from the end", x.shift(0, 3, 1, 0, 0), 0);
        DUE.is("behind the end of none", x.shift(1, 1, 0, 0, 0), PLACE);
        DUE.is("to behind the end of none", x.shift(0, 0, 1, 1, 0), PLACE);
        for (int n : new int[] {-1, -2, Integer.MIN_VALUE, Integer.MAX_VALUE, 4}) DUE.is("n " + n, x.shift(0, 0, 0, 0, n), PLACE);
        for (int i : new int[] {-1, 4, Integer.MIN_VALUE, Integer.MAX_VALUE}) {
            for (int n : new int[] {0, 1, Integer.MAX_VALUE}) {
                DUE.is("from " + i, x.shift(0, i, 0, 0, n), PLACE);
                DUE.is("to " + i, x.shift(0, 0, 0, i, n), PLACE);
            }
        }
        for (int at = 0; at < 3; at++) DUE.is("nothing was changed", x.element(0, at), 5 + at);
    }

    private static void shiftOfEachSort() {
        DUE.says("-12 (no ROWS, or of unlike sorts)");
        for (int from = 0; from < 5; from++) {
            for (int to = 0; to < 5; to++) {
                NarrowBox x = new NarrowBox();
                fill(x, 0, from, 60, 1);
                x.row(5, to, 60);
                DUE.is(from + " to " + to, x.shift(0, 0, 5, 0, 60), from == to ? 60 : KIND);
                for (int at : new int[] {0, 30, 59}) DUE.is("it came", x.element(5, at), from == to ? at + 1 : 0);
                DUE.is("no such place", x.shift(0, 0, 5, 0, 61), from == to ? PLACE : KIND);
            }
        }
    }

    private static void shiftRefused() {
        DUE.says("BAD, -11 (either), -12 (no ROWS, or of unlike sorts), -13 (n below 0, too).");
        // Shelf 0 nothing, 1 a box, 2 bytes, 3 ints, 4 bytes; 6 is none.
        NarrowBox x = new NarrowBox();
        x.box(0);
        x.keep(1, 0);
        x.row(2, 0, 2);
        x.row(3, 1, 2);
        x.row(4, 0, 2);
        for (int from = -1; from <= 6; from++) {
            for (int to = -1; to <= 6; to++) {
                boolean bad = from < 0 || from > 5 || to < 0 || to > 5;
                boolean nothing = from == 0 || from == 5 || to == 0 || to == 5;
                boolean rows = from >= 2 && to >= 2 && (from == 3) == (to == 3);
                int want = bad ? BAD : nothing ? NOTHING : !rows ? KIND : 1;
                DUE.is(from + " to " + to, x.shift(from, 0, to, 1, 1), want);
                DUE.is("with a place that is not there", x.shift(from, 2, to, 1, 1), want == 1 ? PLACE : want);
                DUE.is("with n below 0", x.shift(from, 0, to, 0, -1), want == 1 ? PLACE : want);
            }
        }
    }

    private static void taken() {
        DUE.says("What a SHELF holds, taken for a BOX of KIND k (0 .. 6), or under it: its KIND. BAD, -11, -12.");
        String[] under = {"0", "01", "02", "03", "04", "045", "036"};
        for (int kind = 0; kind < 7; kind++) {
            NarrowBox x = new NarrowBox();
            x.box(0);
            x.box(kind);
            x.keep(5, 1);
            x.row(4, 4, 1);
            for (int k = -1; k <= 7; k++) {
                boolean isKind = k >= 0 && k <= 6;
                boolean fits = isKind && under[kind].indexOf('0' + k) >= 0;
                DUE.is("kind " + kind + " for " + k, x.taken(5, k), !isKind ? BAD : fits ? kind : KIND);
                DUE.is("a row", x.taken(4, k), isKind ? KIND : BAD);
                DUE.is("nothing", x.taken(3, k), isKind ? NOTHING : BAD);
                DUE.is("no shelf", x.taken(6, k), BAD);
                DUE.is("none below", x.taken(-1, k), BAD);
            }
            DUE.is("far below", x.taken(5, Integer.MIN_VALUE), BAD);
            DUE.is("far above", x.taken(5, Integer.MAX_VALUE), BAD);
        }
    }

    private static void counts() {
        DUE.says("How many: 0 BOXES, 1 FLIGHTS, 2 PAPERS, 3 bytes on THE TAPE, 4 bodies that ran in the latest act() (all, kept or not). BAD.");
        NarrowBox x = new NarrowBox();
        for (int n = 0; n <= 8; n++) {
            DUE.is("boxes", x.count(0), Math.min(n, 6));
            DUE.is("flights", x.count(1), n);
            DUE.is("papers", x.count(2), 2 * n);
            DUE.is("bytes", x.count(3), 3 * n);
            x.box(0);
            x.flight();
            x.paper(0, 0, 0, 9999);
            x.paper(0, 0, 0, 9999);
            x.feed(3, 0);
            x.act(0, n % 4, 1);
            DUE.is("bodies", x.count(4), new int[] {1, 2, 1, 4}[n % 4]);
        }
        for (int what : new int[] {-1, 5, 6, Integer.MIN_VALUE, Integer.MAX_VALUE}) DUE.is("no such", x.count(what), BAD);
    }
}
