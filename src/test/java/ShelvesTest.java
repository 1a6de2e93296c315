/** Promises 33 to 42: acts, shelves, counts. */
public final class ShelvesTest {
    private static final Due DUE = new Due();
    private static final int BAD = NarrowBox.BAD;

    public static void main(String[] args) {
        acts();
        trace();
        keepAndTaken();
        row();
        putAndElement();
        reals();
        noNumber();
        shift();
        shiftRefusals();
        count();
        DUE.end();
    }

    /** Boxes 0 .. 5 of kinds that end with the told one, with programs of two lines. */
    private static NarrowBox lastOf(int kind) {
        NarrowBox x = new NarrowBox();
        for (int b = 0; b < 5; b++) x.box(0);
        x.box(kind);
        Due.program(x, 5, "r0=1;r1=2");
        return x;
    }

    private static void acts() {
        // n 5, l 2, x 9: runs, sends, catches, tells.
        int[][] want = {
            {14, 28, 12, 28 - 4},
            {14, 30, 12, 30 - 4},
            {14, 28, 36, 28 - 12},
            {13, 26, 12, 26 - 4},
            {14, 28, 12, 28 - 4 ^ 6},
            {14, 28, -12, 30 + 4 ^ 6},
            {65, 130 - 7, 12, 130 - 7 - 4}};
        for (int kind = 0; kind < 7; kind++) {
            NarrowBox x = lastOf(kind);
            for (int act = 0; act < 4; act++) {
                DUE.is("kind " + kind + " act " + act, x.act(5, act, 9), want[kind][act]);
            }
        }
        NarrowBox x = lastOf(1);
        DUE.is("wraps", x.act(5, 0, Integer.MAX_VALUE), Integer.MIN_VALUE + 4);
        DUE.is("wraps twice", x.act(5, 1, Integer.MAX_VALUE), (Integer.MAX_VALUE + 5) * 2 + 2);
        x.box(1);
        NarrowBox y = new NarrowBox();
        y.box(1);
        DUE.is("no lines", y.act(0, 1, 3), 6);
        int[][] none = {{1, 0}, {-1, 0}, {0, 4}, {0, -1}};
        for (int[] n : none) {
            y.act(0, 3, 1);
            DUE.is("no such", y.act(n[0], n[1], 7), 0);
            DUE.is("no trace then", y.trace(0), BAD);
            DUE.is("none ran", y.count(4), 0);
        }
    }

    private static void trace() {
        int[][] tells = {{2, 10, 1, 11}, {2, 20, 10, 1, 11}, {2, 10, 1, 30, 11}, {2, 10, 40, 1, 11},
            {50, 2, 10, 1, 11}, {61, 50, 2, 10, 1, 60, 11}, {2, 71, 10, 70, 40, 1, 11, 11}};
        for (int kind = 0; kind < 7; kind++) {
            NarrowBox x = lastOf(kind);
            x.act(5, 0, 1);
            x.act(5, 3, 1);
            for (int i = 0; i < tells[kind].length; i++) {
                DUE.is("trace of kind " + kind + " at " + i, x.trace(i), tells[kind][i]);
            }
            DUE.is("trace ends", x.trace(tells[kind].length), BAD);
            DUE.is("how many ran", x.count(4), tells[kind].length);
            DUE.is("trace below", x.trace(-1), BAD);
        }
    }

    private static void keepAndTaken() {
        NarrowBox x = new NarrowBox();
        boolean[][] under = new boolean[7][7];
        for (int k = 0; k < 7; k++) under[k][k] = under[k][0] = true;
        under[5][4] = under[6][3] = true;
        for (int kind = 0; kind < 6; kind++) x.box(kind);
        NarrowBox y = lastOf(6);
        for (int kind = 0; kind < 7; kind++) {
            NarrowBox z = kind < 6 ? x : y;
            DUE.is("keep", z.keep(3, kind < 6 ? kind : 5), 1);
            for (int k = 0; k < 7; k++) DUE.is(kind + " for " + k, z.taken(3, k), under[kind][k] ? kind : -12);
        }
        DUE.is("nothing", x.keep(3, -1), 1);
        DUE.is("nothing is there", x.taken(3, 0), -11);
        x.row(3, 0, 1);
        DUE.is("a row is no box", x.taken(3, 0), -12);
        int[][] bad = {{6, 0}, {-1, 0}, {0, 6}, {0, -2}};
        for (int[] b : bad) DUE.is("keep bad", x.keep(b[0], b[1]), BAD);
        int[][] taken = {{6, 0}, {-1, 0}, {0, 7}, {0, -1}};
        for (int[] b : taken) DUE.is("taken bad", x.taken(b[0], b[1]), BAD);
        x.keep(3, 0);
        DUE.is("the row is gone", x.element(3, 0), Long.MIN_VALUE);
    }

    private static void row() {
        NarrowBox x = new NarrowBox();
        int[][] bad = {{6, 0, 0}, {-1, 0, 0}, {0, 5, 0}, {0, -1, 0}, {0, 0, 61}, {0, 5, -1}, {6, 0, -1}};
        for (int[] b : bad) DUE.is("row bad", x.row(b[0], b[1], b[2]), BAD);
        DUE.is("below 0", x.row(0, 4, -1), -14);
        DUE.is("far below 0", x.row(0, 4, Integer.MIN_VALUE), -14);
        DUE.is("refused changes nothing", x.taken(0, 0), -11);
        DUE.is("none", x.row(0, 4, 0), 1);
        DUE.is("a place of none", x.element(0, 0), Long.MIN_VALUE);
        DUE.is("sixty", x.row(0, 2, 60), 1);
        DUE.is("0 at first", x.element(0, 59), 0);
        x.put(0, 59, 7);
        x.row(0, 2, 60);
        DUE.is("0 again", x.element(0, 59), 0);
        x.row(1, 4, 2);
        x.noNumber(1, 1);
        x.row(1, 3, 2);
        DUE.is("a number again", x.element(1, 1), 0);
    }

    private static void putAndElement() {
        NarrowBox x = new NarrowBox();
        x.box(0);
        long[] puts = {300, -129, Long.MAX_VALUE, 1L << 31, (1L << 32) + 5};
        long[][] want = {{44, 127, -1, 0, 5}, {300, -129, -1, Integer.MIN_VALUE, 5}, puts};
        for (int sort = 0; sort < 3; sort++) {
            x.row(0, sort, 5);
            for (int i = 0; i < 5; i++) {
                DUE.is("put", x.put(0, i, puts[i]), 1);
                DUE.is("sort " + sort + " of " + puts[i], x.element(0, i), want[sort][i]);
            }
        }
        DUE.is("behind the end", x.put(0, 5, 1), -13);
        DUE.is("below", x.put(0, -1, 1), -13);
        DUE.is("nothing there", x.put(1, 0, 1), -11);
        x.keep(1, 0);
        DUE.is("a box", x.put(1, 99, 1), -12);
        DUE.is("no such shelf", x.put(6, 0, 1), BAD);
        DUE.is("no such shelf below", x.put(-1, 0, 1), BAD);
        int[][] none = {{0, 5}, {0, -1}, {1, 0}, {2, 0}, {6, 0}, {-1, 0}};
        for (int[] n : none) DUE.is("no element", x.element(n[0], n[1]), Long.MIN_VALUE);
    }

    private static void reals() {
        NarrowBox x = new NarrowBox();
        long big = (1L << 53) + 1;
        long[][] doubles = {{7, 7}, {-7, -7}, {big, big - 1}, {big + 2, big + 3}, {Long.MAX_VALUE, Long.MAX_VALUE},
            {Long.MIN_VALUE, Long.MIN_VALUE}, {Long.MAX_VALUE - 600, Long.MAX_VALUE - 1023}};
        long[][] floats = {{7, 7}, {-7, -7}, {16777217, 16777216}, {16777219, 16777220}, {-16777217, -16777216},
            {Long.MAX_VALUE, Long.MAX_VALUE}, {Long.MIN_VALUE, Long.MIN_VALUE},
            // The nearest of all, not the nearest of the nearest double.
            {(1L << 60) + (1L << 36) + 1, (1L << 60) + (1L << 37)}};
        for (int sort = 3; sort < 5; sort++) {
            x.row(0, sort, 1);
            for (long[] p : sort == 3 ? floats : doubles) {
                x.put(0, 0, p[0]);
                DUE.is("sort " + sort + " of " + p[0], x.element(0, 0), p[1]);
            }
        }
    }

    private static void noNumber() {
        NarrowBox x = new NarrowBox();
        x.box(0);
        for (int sort = 3; sort < 5; sort++) {
            x.row(0, sort, 2);
            DUE.is("no number", x.noNumber(0, 1), 1);
            DUE.is("it is none", x.element(0, 1), Long.MAX_VALUE);
            DUE.is("the other one is", x.element(0, 0), 0);
            x.put(0, 1, 8);
            DUE.is("a number again", x.element(0, 1), 8);
            DUE.is("behind the end", x.noNumber(0, 2), -13);
            DUE.is("below", x.noNumber(0, -1), -13);
        }
        for (int sort = 0; sort < 3; sort++) {
            x.row(1, sort, 2);
            DUE.is("whole numbers", x.noNumber(1, 0), -12);
            DUE.is("whole numbers, no place", x.noNumber(1, 2), -12);
        }
        x.keep(1, 0);
        DUE.is("a box", x.noNumber(1, 0), -12);
        DUE.is("nothing there", x.noNumber(2, 0), -11);
        DUE.is("no such shelf", x.noNumber(6, 0), BAD);
        DUE.is("no such shelf below", x.noNumber(-1, 0), BAD);
    }

    private static void fill(NarrowBox x, int shelf, int sort, int n) {
        x.row(shelf, sort, n);
        for (int i = 0; i < n; i++) x.put(shelf, i, i + 1);
    }

    private static void elementsAre(String what, NarrowBox x, int shelf, int... want) {
        for (int i = 0; i < want.length; i++) DUE.is(what + " at " + i, x.element(shelf, i), want[i]);
    }

    private static void shift() {
        NarrowBox x = new NarrowBox();
        for (int sort = 0; sort < 5; sort++) {
            fill(x, 0, sort, 5);
            DUE.is("up", x.shift(0, 0, 0, 2, 3), 3);
            elementsAre("up", x, 0, 1, 2, 1, 2, 3);
            fill(x, 0, sort, 5);
            DUE.is("down", x.shift(0, 2, 0, 0, 3), 3);
            elementsAre("down", x, 0, 3, 4, 5, 4, 5);
            x.row(1, sort, 2);
            DUE.is("to another one", x.shift(0, 1, 1, 0, 2), 2);
            elementsAre("to another one", x, 1, 4, 5);
            elementsAre("from stays", x, 0, 3, 4, 5, 4, 5);
            DUE.is("none at the ends", x.shift(0, 5, 1, 2, 0), 0);
        }
        x.noNumber(0, 0);
        x.shift(0, 0, 1, 1, 1);
        DUE.is("no number comes along", x.element(1, 1), Long.MAX_VALUE);
        x.shift(1, 0, 0, 0, 1);
        DUE.is("and a number takes its place", x.element(0, 0), 4);
    }

    private static void shiftRefusals() {
        NarrowBox x = new NarrowBox();
        x.box(0);
        fill(x, 0, 4, 5);
        fill(x, 1, 4, 3);
        fill(x, 2, 3, 5);
        x.keep(3, 0);
        int[][] places = {{-1, 0, 1}, {0, -1, 1}, {0, 0, -1}, {5, 0, 1}, {3, 0, 3}, {0, 0, 4}, {0, 3, 1}, {6, 0, 0},
            {0, 4, 0}, {1, 0, Integer.MAX_VALUE}, {Integer.MAX_VALUE, 0, 1}, {0, Integer.MAX_VALUE, 1},
            {Integer.MIN_VALUE, 0, 0}, {0, 0, Integer.MIN_VALUE}};
        for (int[] p : places) DUE.is("no such place", x.shift(0, p[0], 1, p[1], p[2]), -13);
        elementsAre("refused changes nothing", x, 1, 1, 2, 3);
        DUE.is("unlike sorts", x.shift(0, 9, 2, 0, 1), -12);
        DUE.is("from a box", x.shift(3, 0, 0, 0, 1), -12);
        DUE.is("to a box", x.shift(0, 0, 3, 0, 1), -12);
        DUE.is("from a box to itself", x.shift(3, 0, 3, 0, 1), -12);
        DUE.is("from nothing", x.shift(4, 0, 0, 0, 1), -11);
        DUE.is("to nothing", x.shift(0, 0, 4, 0, 1), -11);
        DUE.is("from a box to nothing", x.shift(3, 0, 4, 0, 1), -11);
        DUE.is("from no shelf", x.shift(6, 0, 4, 0, 1), BAD);
        DUE.is("to no shelf", x.shift(4, 0, -1, 0, 1), BAD);
    }

    private static void count() {
        NarrowBox x = new NarrowBox();
        x.box(0);
        x.flight();
        x.flight();
        x.paper(0, 0, 0, 9999);
        x.paper(0, 0, 0, 9999);
        x.paper(0, 0, 0, 9999);
        x.feed(4, 0);
        x.act(0, 1, 1);
        int[] want = {1, 2, 3, 4, 2};
        for (int what = 0; what < 5; what++) DUE.is("count " + what, x.count(what), want[what]);
        DUE.is("count bad", x.count(5), BAD);
        DUE.is("count bad below", x.count(-1), BAD);
    }
}
