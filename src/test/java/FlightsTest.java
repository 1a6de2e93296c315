/** Promises 9 to 21: flights, runs, spans. */
public final class FlightsTest {
    private static final Due DUE = new Due();
    private static final int BAD = NarrowBox.BAD, NOT = NarrowBox.NOT, FULL = NarrowBox.FULL, BIG = NarrowBox.BIG;
    private static final int VOID = NarrowBox.VOID;

    public static void main(String[] args) {
        flight();
        felt();
        feltRow();
        feltRowRefusals();
        run();
        ofRun();
        firstFault();
        span();
        all();
        allBig();
        began();
        gaps();
        bounds();
        like();
        DUE.end();
    }

    private static void flight() {
        NarrowBox x = new NarrowBox();
        for (int f = 0; f < 8; f++) DUE.is("flight", x.flight(), f);
        DUE.is("flight full", x.flight(), FULL);
        DUE.is("flights", x.count(1), 8);
        for (int k = 0; k < 3; k++) DUE.is("start at first", x.feels(70 + k, 199), 0);
    }

    private static void felt() {
        NarrowBox x = new NarrowBox();
        x.flight();
        x.flight();
        DUE.is("felt", x.felt(11, 10, -3, 20), 1);
        int[][] due = {{0, 10}, {1, 7}, {10, -20}, {199, -20}};
        for (int[] d : due) DUE.is("feels at " + d[0], x.feels(11, d[0]), d[1]);
        DUE.is("others feel nothing", x.feels(10, 5), 0);
        DUE.is("the other flight neither", x.feels(1, 5), 0);
        x.felt(2, -99999, 999, 99999);
        DUE.is("all of it", x.feels(2, 199), -99999 + 199 * 999);
        x.felt(2, 99999, 999, 99999);
        DUE.is("held", x.feels(2, 1), 99999);
        x.felt(2, 50, 0, 0);
        DUE.is("held by 0", x.feels(2, 0), 0);
        int[][] bad = {{20, 0, 0, 0}, {-1, 0, 0, 0}, {3, 0, 0, 0}, {13, 0, 0, 0}, {0, 100000, 0, 0}, {0, -100000, 0, 0},
            {0, 0, 1000, 0}, {0, 0, -1000, 0}, {0, 0, 0, -1}, {0, 0, 0, 100000}, {Integer.MIN_VALUE, 0, 0, 0},
            {0, Integer.MIN_VALUE, 0, 0}, {0, 0, Integer.MIN_VALUE, 0}};
        for (int[] b : bad) DUE.is("felt bad", x.felt(b[0], b[1], b[2], b[3]), BAD);
        int[][] void0 = {{20, 0}, {-1, 0}, {3, 0}, {0, 200}, {0, -1}};
        for (int[] v : void0) DUE.is("feels void", x.feels(v[0], v[1]), VOID);
    }

    private static void feltRow() {
        NarrowBox x = new NarrowBox();
        x.flight();
        x.felt(0, 77, 1, 5);
        x.row(0, 4, 6);
        long[] quarters = {10, -1, -4, 4 * 100000L, -4 * 100000L, 3};
        for (int i = 0; i < 6; i++) x.put(0, i, quarters[i]);
        DUE.is("a row of doubles", x.feltRow(0, 0, 0), 6);
        int[] want = {2, -1, -1, 99999, -99999, 0, 0};
        for (int t = 0; t < want.length; t++) DUE.is("felt of a row " + t, x.feels(0, t), want[t]);
        x.put(0, 0, 4000);
        DUE.is("as it was told", x.feels(0, 0), 2);
        DUE.is("from a place on", x.feltRow(0, 0, 3), 3);
        DUE.is("from there", x.feels(0, 0), 99999);
        x.noNumber(0, 4);
        x.put(0, 5, 29);
        x.feltRow(0, 0, 3);
        DUE.is("no number", x.feels(0, 1), 0);
        DUE.is("the last one", x.feels(0, 2), 7);
        DUE.is("the last one again", x.feels(0, 199), 7);
        DUE.is("at its end", x.feltRow(0, 0, 6), 0);
        DUE.is("0 without", x.feels(0, 0), 0);
        DUE.is("far behind its end", x.feltRow(0, 0, Integer.MAX_VALUE), 0);
        for (int i : new int[] {-1, -6, Integer.MIN_VALUE}) {
            x.feltRow(0, 0, 3);
            DUE.is("a place below 0 is not there", x.feltRow(0, 0, i), 0);
            DUE.is("0 without, ahead of the row", x.feels(0, 0), 0);
            DUE.is("and it does not come later", x.feels(0, 199), 0);
        }
        x.row(1, 3, 2);
        x.put(1, 0, Long.MAX_VALUE);
        x.put(1, 1, Long.MIN_VALUE);
        DUE.is("a row of floats", x.feltRow(1, 1, 0), 2);
        DUE.is("held above", x.feels(1, 0), 99999);
        DUE.is("held below", x.feels(1, 1), -99999);
        DUE.is("no more", x.feltRow(0, -1, 0), 0);
        DUE.is("start again", x.feels(0, 0), 5);
        DUE.is("nothing there is missing", x.feltRow(0, 5, 0), 0);
        DUE.is("missing gives 0", x.feels(0, 0), 0);
        x.feltRow(0, 0, 3);
        DUE.is("nothing there, from below 0 on", x.feltRow(0, 5, -1), 0);
        DUE.is("missing gives 0 again", x.feels(0, 0), 0);
        DUE.is("no more, whatever the place is", x.feltRow(0, -1, -1), 0);
        DUE.is("start once more", x.feels(0, 0), 5);
        x.feltRow(0, 5, 0);
        DUE.is("felt() does not end a row", x.felt(0, 3, 0, 9), 1);
        DUE.is("still the row", x.feels(0, 0), 0);
        x.feltRow(0, -1, 0);
        DUE.is("what felt() told", x.feels(0, 0), 3);
        x.row(2, 4, 60);
        for (int i = 0; i < 60; i++) x.put(2, i, 4 * i);
        DUE.is("all sixty", x.feltRow(2, 2, 0), 60);
        DUE.is("the last of sixty", x.feels(2, 60), 59);
        x.row(2, 4, 3);
        x.put(2, 2, 20);
        DUE.is("three", x.feltRow(2, 2, 0), 3);
        DUE.is("the last of three", x.feels(2, 3), 5);
        x.flight();
        x.flight();
        DUE.is("of another flight and felt", x.feltRow(22, 2, 2), 1);
        DUE.is("it is felt there", x.feels(22, 9), 5);
        DUE.is("not elsewhere", x.feels(21, 9) + x.feels(12, 9), 0);
        x.feltRow(22, -1, 0);
        DUE.is("no more there", x.feels(22, 9), 0);
        DUE.is("but here", x.feels(2, 9), 5);
    }

    private static void feltRowRefusals() {
        NarrowBox x = new NarrowBox();
        x.flight();
        x.box(0);
        x.keep(0, 0);
        x.row(4, 4, 1);
        DUE.is("a box", x.feltRow(0, 0, 0), -12);
        for (int sort = 0; sort < 3; sort++) {
            x.row(1, sort, 3);
            DUE.is("a row of sort " + sort, x.feltRow(0, 1, 0), -12);
        }
        DUE.is("another kind, whatever the place is", x.feltRow(0, 1, -1), -12);
        DUE.is("a box, whatever the place is", x.feltRow(0, 0, -1), -12);
        int[][] bad = {{3, 1, 0}, {10, 1, 0}, {-1, 1, 0}, {0, 6, 0}, {0, -2, 0}, {3, 5, -1}, {0, 6, -1}};
        for (int[] b : bad) DUE.is("feltRow bad", x.feltRow(b[0], b[1], b[2]), BAD);
    }

    private static void run() {
        NarrowBox x = new NarrowBox();
        x.flight();
        DUE.is("no boxes", x.run(0, 1), 0);
        DUE.is("no fault", x.firstFault(0), NOT);
        for (int b = 0; b < 3; b++) x.box(0);
        Due.program(x, 0, "r0=t*200");
        Due.program(x, 2, "r0=t*300");
        DUE.is("none yet", x.run(0, 110), 0);
        DUE.is("one", x.run(0, 111), 1);
        DUE.is("two", x.run(0, 200), 2);
        int[][] bad = {{1, 1}, {-1, 1}, {0, 0}, {0, 201}, {0, -1}};
        for (int[] b : bad) DUE.is("run bad", x.run(b[0], b[1]), BAD);
        DUE.is("bad changed nothing", x.ofRun(0, 31), 164);
        DUE.is("as at first again", x.run(0, 1), 0);
        DUE.is("slots too", x.ofRun(0, 0), 0);
    }

    private static void ofRun() {
        NarrowBox x = new NarrowBox();
        x.flight();
        x.box(0);
        DUE.is("before any", x.ofRun(0, 0), VOID);
        Due.program(x, 0, "r7=3;s3=-4;s0=9");
        x.run(0, 2);
        int[][] due = {{7, 3}, {0, 0}, {13, -4}, {10, 9}, {11, 0}, {20, 0}, {23, 0}, {30, 0}, {31, -1}, {32, 0}};
        for (int[] d : due) DUE.is("ofRun " + d[0], x.ofRun(0, d[0]), d[1]);
        for (int w : new int[] {-1, 8, 9, 14, 19, 24, 29, 33, 100}) DUE.is("ofRun void", x.ofRun(0, w), VOID);
        DUE.is("no such box", x.ofRun(1, 0), VOID);
        DUE.is("no such box below", x.ofRun(-1, 0), VOID);
        Due.program(x, 0, "r7=5");
        x.far(0, 0, 2, 1000);
        x.needed(0, 0, 2);
        x.best(0, 1, 1002, 0);
        x.all(0, 0, 2);
        DUE.is("of run() alone", x.ofRun(0, 7), 3);
        x.box(0);
        DUE.is("a box that came later took no part", x.ofRun(1, 0), VOID);
        x.run(0, 1);
        DUE.is("then it does", x.ofRun(1, 0), 0);
    }

    private static void firstFault() {
        NarrowBox x = new NarrowBox();
        x.flight();
        for (int b = 0; b < 3; b++) x.box(0);
        DUE.is("before any", x.firstFault(0), BAD);
        Due.program(x, 0, "r0=1;r1=1/(t-9)");
        Due.program(x, 1, "r0=1/0;kr0=1;r1=1;r2=99999*99999*(t=7)");
        Due.program(x, 2, "r0=99999*(t=7)");
        x.run(0, 3);
        DUE.is("first at 0, too large", x.firstFault(0), 0);
        int[] want = {0, 1, 3, 2};
        for (int w = 0; w < 4; w++) DUE.is("firstFault " + w, x.firstFault(w), want[w]);
        Due.program(x, 1, "r0=1/0;kr0=1");
        x.run(0, 7);
        DUE.is("caught ones do not count", x.firstFault(3), NOT);
        x.run(0, 12);
        int[] later = {7, 2, 0, 1};
        for (int w = 0; w < 4; w++) DUE.is("first, not the last " + w, x.firstFault(w), later[w]);
        Due.program(x, 1, "r0=1;?t=7:r1=1/0");
        x.run(0, 12);
        int[] byNumbers = {7, 1, 1, 3};
        for (int w = 0; w < 4; w++) DUE.is("in a tick by numbers " + w, x.firstFault(w), byNumbers[w]);
        DUE.is("no such", x.firstFault(4), BAD);
        DUE.is("no such below", x.firstFault(-1), BAD);
    }

    private static void span() {
        NarrowBox x = new NarrowBox();
        x.box(0);
        Due.program(x, 0, "r0=f2");
        DUE.is("span", x.span(12, -5, 6), 1);
        DUE.is("least", x.bounds(1, 0, 0, 0), -5);
        DUE.is("greatest", x.bounds(1, 0, 0, 1), 6);
        DUE.is("the other machine has its own", x.bounds(0, 0, 0, 1), 0);
        DUE.is("one", x.span(2, 7, 7), 1);
        DUE.is("widest", x.span(0, -99999, 99999), 1);
        int[][] bad = {{20, 0, 0}, {3, 0, 0}, {13, 0, 0}, {-1, 0, 0}, {0, 1, 0}, {12, -100000, 0}, {12, 0, 100000}};
        for (int[] b : bad) DUE.is("span bad", x.span(b[0], b[1], b[2]), BAD);
        DUE.is("bad changed nothing", x.bounds(1, 0, 0, 0), -5);
    }

    private static void all() {
        NarrowBox x = new NarrowBox();
        x.flight();
        x.box(0);
        x.box(0);
        x.span(0, 0, 4);
        x.span(1, 10, 13);
        x.span(2, -1, 1);
        DUE.is("without programs", x.all(0, 0, 200), NOT);
        Due.program(x, 0, "r0=1/(f0*100+f1-312);r1=1");
        DUE.is("the least one", x.all(0, 0, 1), 3 * 12 + 2 * 3);
        int[] began = {3, 12, -1};
        for (int k = 0; k < 3; k++) DUE.is("began " + k, x.began(k), began[k]);
        DUE.is("the other machine's spans", x.all(1, 0, 1), NOT);
        DUE.is("began stays", x.began(1), 12);
        Due.program(x, 1, "r0=1/(f2-1)");
        DUE.is("another box is ahead", x.all(0, 0, 1), 2);
        Due.program(x, 1, "r0=1/(f2-1);kr0=1");
        DUE.is("caught", x.all(0, 0, 1), 42);
        Due.program(x, 0, "r0=f0*1000");
        x.felt(0, 5555, 7, 99999);
        DUE.is("four and 4 times 7 is not enough", x.all(0, 0, 5), NOT);
        DUE.is("nothing and 5 times 7 is", x.all(0, 0, 6), 0);
        x.felt(0, 5555, 7, 30);
        DUE.is("held by the cap", x.all(0, 0, 200), NOT);
        x.row(0, 4, 1);
        x.put(0, 0, 4 * 99);
        x.feltRow(0, 0, 0);
        DUE.is("rows are left aside", x.all(0, 0, 200), NOT);
        DUE.is("the flight keeps its row", x.feels(0, 0), 99);
        int[][] bad = {{2, 0, 1}, {-1, 0, 1}, {0, 1, 1}, {0, -1, 1}, {0, 0, 0}, {0, 0, 201}};
        for (int[] b : bad) DUE.is("all bad", x.all(b[0], b[1], b[2]), BAD);
    }

    private static void allBig() {
        NarrowBox x = new NarrowBox();
        x.flight();
        x.box(0);
        Due.program(x, 0, "r0=1/(1999-f0);r1=f1+f2");
        x.span(0, 0, 1999);
        DUE.is("2000 rows", x.all(0, 0, 1), 1999);
        DUE.is("began at the last", x.began(0), 1999);
        x.span(1, 0, 1);
        DUE.is("4000 rows", x.all(0, 0, 1), BIG);
        DUE.is("bad comes first", x.all(0, 0, 0), BAD);
        DUE.is("began stays", x.began(0), 1999);
        for (int k = 0; k < 3; k++) x.span(k, -99999, 99999);
        DUE.is("very many rows", x.all(0, 0, 1), BIG);
        x.span(0, 0, 19);
        x.span(1, 0, 9);
        x.span(2, 0, 9);
        DUE.is("20 by 10 by 10", x.all(0, 0, 1), NOT);
        x.span(2, 0, 10);
        DUE.is("20 by 10 by 11", x.all(0, 0, 1), BIG);
    }

    private static void began() {
        NarrowBox x = new NarrowBox();
        x.flight();
        x.box(0);
        Due.program(x, 0, "r0=1/f1");
        DUE.is("began before", x.began(1), VOID);
        x.span(0, 4, 5);
        DUE.is("found at once", x.all(0, 0, 1), 0);
        DUE.is("began", x.began(0), 4);
        DUE.is("no such", x.began(3), VOID);
        DUE.is("no such below", x.began(-1), VOID);
        x.span(1, 1, 2);
        DUE.is("none now", x.all(0, 0, 1), NOT);
        DUE.is("of the latest that found one", x.began(0), 4);
        x.felt(0, 0, -1, 2);
        x.span(0, 2, 9);
        Due.program(x, 0, "r0=1/(1-(t=3&f0=2))");
        DUE.is("three beginnings of FELT 0 ahead, two of FELT 1 each", x.all(0, 0, 4), 6);
        DUE.is("where it began, not where the cap holds it", x.began(0), 5);
    }

    /** The bounds of an E by spans, as one number; VOID: over. */
    private static void boundsAre(String e, int least, int greatest) {
        NarrowBox x = new NarrowBox();
        x.box(0);
        x.span(0, -3, 4);
        x.span(1, 2, 5);
        x.span(2, -6, -2);
        x.bits(0, 1, 4);
        DUE.is(e, Due.program(x, 0, "!r0=" + e), 1);
        DUE.is("least of " + e, x.bounds(0, 0, 0, 0), least);
        DUE.is("greatest of " + e, x.bounds(0, 0, 0, 1), greatest);
        DUE.is("gap of " + e, x.gaps(0, 0), least == VOID ? 1 : 0);
    }

    private static void bounds() {
        boundsAre("7", 7, 7);
        boundsAre("r0", -32768, 32767);
        boundsAre("r1", -8, 7);
        boundsAre("i3", -32768, 32767);
        boundsAre("f0", -3, 4);
        boundsAre("t", 0, 199);
        boundsAre("e", 0, 4);
        boundsAre("-f0", -4, 3);
        boundsAre("f0+f1", -1, 9);
        boundsAre("f0-f1", -8, 2);
        boundsAre("f0*f2", -24, 18);
        boundsAre("f0*f0", -12, 16);
        boundsAre("f0-f0", -7, 7);
        boundsAre("9/f1", 1, 4);
        boundsAre("9/f2", -4, -1);
        boundsAre("(f0*10)/f1", -15, 20);
        boundsAre("(f0*10)/f2", -20, 15);
        boundsAre("(f0*10-50)/f1", -40, -2);
        boundsAre("(f0*10-50)/f2", 1, 40);
        boundsAre("f1*f2", -30, -4);
        boundsAre("9/f0", VOID, VOID);
        boundsAre("9/t", VOID, VOID);
        boundsAre("9/(t+1)", 0, 9);
        boundsAre("1%f1", -4, 4);
        boundsAre("1%f2", -5, 5);
        boundsAre("t%1", 0, 0);
        boundsAre("t%f0", VOID, VOID);
        boundsAre("t%(0-e-1)", -4, 4);
        boundsAre("2<1", 0, 1);
        boundsAre("2=2", 0, 1);
        boundsAre("0|0", 0, 1);
        boundsAre("9&9", 0, 1);
        boundsAre("0&9/f0", VOID, VOID);
        boundsAre("1<99999*99999", VOID, VOID);
        boundsAre("99999*10000+10000", 1000000000, 1000000000);
        boundsAre("99999*10000+10001", VOID, VOID);
        boundsAre("-99999*10000-10000", -1000000000, -1000000000);
        boundsAre("i0*i1", VOID, VOID);
        boundsAre("i0*i1*0", VOID, VOID);
        NarrowBox x = new NarrowBox();
        x.box(0);
        Due.program(x, 0, "r0=1");
        int[][] bad = {{2, 0, 0, 0}, {-1, 0, 0, 0}, {0, 1, 0, 0}, {0, -1, 0, 0}, {0, 0, 1, 0}, {0, 0, -1, 0},
            {0, 0, 0, 2}, {0, 0, 0, -1}};
        for (int[] b : bad) DUE.is("bounds void", x.bounds(b[0], b[1], b[2], b[3]), VOID);
    }

    private static void gaps() {
        NarrowBox x = new NarrowBox();
        x.box(0);
        DUE.is("no lines", x.gaps(0, 0), 0);
        x.span(10, 0, 8);
        x.bits(0, 0, 4);
        x.bits(0, 1, 20);
        Due.program(x, 0, "r0=f0;k?1/0:r0=f0+7;?0:r0=-f0-8;!r0=f0+8;s0=32767+f0;s1=r1;!s2=1/f0;r1=r1;r0=7;r0=-8;r0=-9");
        DUE.is("gaps of the older", x.gaps(0, 0), 0b10001100000);
        DUE.is("gaps of the newer", x.gaps(1, 0), 0b10001110111);
        x.watch(0, 10, 1);
        DUE.is("a watch closes it", x.gaps(0, 0), 0b1100000);
        int[][] bad = {{2, 0}, {-1, 0}, {0, 1}, {0, -1}};
        for (int[] b : bad) DUE.is("gaps bad", x.gaps(b[0], b[1]), BAD);
    }

    private static void like() {
        NarrowBox x = new NarrowBox();
        for (int b = 0; b < 3; b++) x.box(0);
        Due.program(x, 0, "r0=1;r0=i0*2");
        Due.program(x, 2, "r0=1/f0;r0=1;r0=r0+1");
        DUE.is("how many", x.like(0, -1), 3);
        int[] want = {1, 200, 202};
        for (int i = 0; i < 3; i++) DUE.is("the one " + i, x.like(0, i), want[i]);
        DUE.is("none such", x.like(0, 3), BAD);
        DUE.is("none such below", x.like(0, -2), BAD);
        DUE.is("no such machine", x.like(2, -1), BAD);
        x.span(10, 1, 2);
        DUE.is("how many of the newer", x.like(1, -1), 2);
    }
}
