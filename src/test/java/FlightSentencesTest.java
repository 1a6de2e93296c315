/** Part 2 of the terms, sentence by sentence: flights, rows that are felt, spans, all flights, what spans show. */
public final class FlightSentencesTest {
    private static final Due DUE = new Due();
    private static final int BAD = NarrowBox.BAD, NOT = NarrowBox.NOT, BIG = NarrowBox.BIG, VOID = NarrowBox.VOID;

    public static void main(String[] args) {
        flightsAsTheyCome();
        eachFelt();
        feltAtFirst();
        heldByCap();
        wholeNumberNotAbove();
        rowHeld();
        lastOneAgain();
        zeroWithout();
        fromAPlaceOn();
        placeBelow();
        rowOfEachFelt();
        asWhenTold();
        noMore();
        otherKinds();
        inARun();
        spanOfEach();
        spanLimits();
        allFlights();
        allOfTheNewer();
        allInOrder();
        allOfEachFelt();
        allByStepAndCap();
        allBig();
        allNot();
        began();
        shownNames();
        shownSums();
        shownSize();
        shownQuotients();
        shownRests();
        shownTruth();
        shownOfTheLatestProgram();
        shownWithoutTests();
        over();
        gaps();
        partThatIsOver();
        like();
        DUE.end();
    }

    private static void flightsAsTheyCome() {
        DUE.says("FLIGHTS 0 .. 7, as they come");
        NarrowBox x = new NarrowBox();
        for (int f = 0; f < 8; f++) {
            DUE.is("not yet", x.feels(10 * f, 0), VOID);
            DUE.is("not yet to be told", x.felt(10 * f, 1, 1, 1), BAD);
            DUE.is("not yet run", x.run(f, 1), BAD);
            DUE.is("flight", x.flight(), f);
            DUE.is("now it is", x.feels(10 * f + 2, 0), 0);
        }
        DUE.is("a ninth", x.flight(), NarrowBox.FULL);
        DUE.is("eight", x.count(1), 8);
        DUE.is("none of the ninth", x.feels(80, 0), VOID);
    }

    private static void eachFelt() {
        DUE.says("FELT 0 .. 2 each START (-99999 .. 99999), STEP (-999 .. 999) and CAP (0 .. 99999): FELT at t: START + t STEP, held within - CAP .. CAP.");
        NarrowBox x = new NarrowBox();
        for (int f = 0; f < 8; f++) x.flight();
        for (int f = 0; f < 8; f++) {
            for (int k = 0; k < 3; k++) DUE.is("told", x.felt(10 * f + k, 100 * f + 10 * k, f - k, 99999), 1);
        }
        for (int f = 0; f < 8; f++) {
            for (int k = 0; k < 3; k++) {
                for (int t : new int[] {0, 1, 199}) DUE.is("felt", x.feels(10 * f + k, t), 100 * f + 10 * k + t * (f - k));
            }
            DUE.is("no fourth", x.feels(10 * f + 3, 0), VOID);
            DUE.is("a tick below", x.feels(10 * f, -1), VOID);
            DUE.is("a tick above", x.feels(10 * f, 200), VOID);
        }
    }

    private static void feltAtFirst() {
        DUE.says("A FLIGHT: its number (START, STEP 0, CAP 99999 of all at first). FULL.");
        NarrowBox x = new NarrowBox();
        x.flight();
        x.box(0);
        for (int k = 0; k < 3; k++) {
            DUE.is("0 first", x.feels(k, 0), 0);
            DUE.is("0 last", x.feels(k, 199), 0);
        }
        Due.program(x, 0, "r0=1/(99999-f0)");
        for (int end : new int[] {99998, 99999}) {
            x.span(0, end, end);
            DUE.is("a cap of 99999 holds nothing of " + end, x.all(0, 0, 1), end == 99999 ? 0 : NOT);
            x.span(0, -end, -end);
            Due.program(x, 0, "r0=1/(99999+f0)");
            DUE.is("nor below", x.all(0, 0, 1), end == 99999 ? 0 : NOT);
            Due.program(x, 0, "r0=1/(99999-f0)");
        }
    }

    private static void heldByCap() {
        DUE.says("FELT at t: START + t STEP, held within - CAP .. CAP.");
        NarrowBox x = new NarrowBox();
        x.flight();
        int[][] due = {{0, 1, 10, 9, 9}, {0, 1, 10, 10, 10}, {0, 1, 10, 11, 10}, {0, -1, 10, 10, -10}, {0, -1, 10, 11, -10},
            {99999, 0, 0, 0, 0}, {-99999, 0, 0, 0, 0}, {5, 0, 0, 199, 0}, {1, 0, 1, 0, 1}, {-1, 0, 1, 0, -1}, {2, 0, 1, 0, 1}, {-2, 0, 1, 0, -1},
            {50, -1, 20, 0, 20}, {50, -1, 20, 30, 20}, {50, -1, 20, 31, 19}, {50, -1, 20, 71, -20}, {50, -1, 20, 199, -20},
            {99999, 999, 99999, 199, 99999}, {-99999, -999, 99999, 199, -99999}, {-99999, 999, 99999, 199, -99999 + 199 * 999},
            {99999, -999, 99999, 199, 99999 - 199 * 999}};
        for (int[] d : due) {
            x.felt(1, d[0], d[1], d[2]);
            DUE.is(d[0] + " " + d[1] + " " + d[2] + " at " + d[3], x.feels(1, d[3]), d[4]);
        }
    }

    /** A row of floats (sort 3) or doubles (4) with quarters, felt as FELT 0 of flight 0. */
    private static NarrowBox rowOf(int sort, long... quarters) {
        NarrowBox x = new NarrowBox();
        x.flight();
        x.row(0, sort, quarters.length);
        for (int i = 0; i < quarters.length; i++) x.put(0, i, quarters[i]);
        return x;
    }

    private static void wholeNumberNotAbove() {
        DUE.says("gives FELT of one of them tick by tick: the greatest whole number not above (held within -99999 .. 99999; no number: 0)");
        long[] quarters = {0, 1, 2, 3, 4, 5, 7, 8, -1, -2, -3, -4, -5, -7, -8, -9, 399, -399, 400, -400};
        int[] want = {0, 0, 0, 0, 1, 1, 1, 2, -1, -1, -1, -1, -2, -2, -2, -3, 99, -100, 100, -100};
        for (int sort = 3; sort <= 4; sort++) {
            NarrowBox x = rowOf(sort, quarters);
            DUE.is("taken", x.feltRow(0, 0, 0), quarters.length);
            for (int t = 0; t < want.length; t++) DUE.is("of " + quarters[t] + " quarters", x.feels(0, t), want[t]);
            for (int i = 0; i < quarters.length; i++) x.noNumber(0, i);
            x.feltRow(0, 0, 0);
            for (int t = 0; t < want.length; t++) DUE.is("no number", x.feels(0, t), 0);
        }
    }

    private static void rowHeld() {
        DUE.says("(held within -99999 .. 99999; no number: 0)");
        long end = 4 * 99999L;
        long[] quarters = {end - 1, end, end + 1, end + 3, end + 4, 4 * 100000L + 4, Long.MAX_VALUE, 1L << 34, 1L << 62,
            -end + 1, -end, -end - 1, -end - 4, -end - 5, Long.MIN_VALUE, -(1L << 34), -(1L << 62), 1L << 33, -(1L << 33)};
        int[] want = {99998, 99999, 99999, 99999, 99999, 99999, 99999, 99999, 99999,
            -99999, -99999, -99999, -99999, -99999, -99999, -99999, -99999, 99999, -99999};
        for (int sort = 3; sort <= 4; sort++) {
            NarrowBox x = rowOf(sort, quarters);
            x.felt(0, 1, 1, 5);
            x.feltRow(0, 0, 0);
            for (int t = 0; t < want.length; t++) DUE.is("of " + quarters[t] + " quarters", x.feels(0, t), want[t]);
        }
    }

    private static void lastOneAgain() {
        DUE.says("where the row is missing or ends, from there on the last one again (0 without)");
        for (int length : new int[] {1, 2, 59, 60}) {
            long[] quarters = new long[length];
            for (int i = 0; i < length; i++) quarters[i] = 4 * (i + 5);
            NarrowBox x = rowOf(4, quarters);
            DUE.is("all", x.feltRow(0, 0, 0), length);
            for (int t = 0; t < 200; t++) DUE.is("at " + t, x.feels(0, t), 5 + Math.min(t, length - 1));
            x.noNumber(0, length - 1);
            x.feltRow(0, 0, 0);
            DUE.is("the last one is no number", x.feels(0, 199), 0);
        }
    }

    private static void zeroWithout() {
        DUE.says("where the row is missing or ends, from there on the last one again (0 without)");
        NarrowBox x = rowOf(4, 40, 44);
        for (int i : new int[] {2, 3, 60, Integer.MAX_VALUE}) {
            x.felt(0, 9, 9, 99);
            x.feltRow(0, 0, 1);
            DUE.is("from behind its end", x.feltRow(0, 0, i), 0);
            for (int t : new int[] {0, 1, 199}) DUE.is("0 without", x.feels(0, t), 0);
        }
        x.row(1, 4, 0);
        x.row(2, 3, 0);
        for (int shelf = 1; shelf < 6; shelf++) {
            x.feltRow(0, 0, 0);
            DUE.is("none there", x.feltRow(0, shelf, 0), 0);
            for (int t : new int[] {0, 1, 199}) DUE.is("0 without", x.feels(0, t), 0);
        }
    }

    private static void fromAPlaceOn() {
        DUE.says("FELT k of a FLIGHT comes FROM A ROW on a SHELF, from place i on (as it is now; shelf -1: no more): how many elements.");
        NarrowBox x = rowOf(3, 40, 44, 48, 52);
        for (int i = 0; i <= 5; i++) {
            int left = Math.max(0, 4 - i);
            DUE.is("from " + i, x.feltRow(0, 0, i), left);
            for (int t = 0; t < 6; t++) DUE.is("at " + t, x.feels(0, t), left == 0 ? 0 : Math.min(13, 10 + i + t));
        }
    }

    private static void placeBelow() {
        DUE.says("where the row is missing or ends, from there on the last one again (0 without)");
        NarrowBox x = rowOf(4, 40, 44);
        for (int i : new int[] {-1, -2, -60, Integer.MIN_VALUE}) {
            x.feltRow(0, 0, 0);
            DUE.is("a place that is not there", x.feltRow(0, 0, i), 0);
            for (int t : new int[] {0, 1, 2, 199}) DUE.is("0 without", x.feels(0, t), 0);
            x.feltRow(0, 0, 0);
            DUE.is("nothing there", x.feltRow(0, 3, i), 0);
            DUE.is("0 without", x.feels(0, 1), 0);
        }
    }

    private static void rowOfEachFelt() {
        DUE.says("FELT k of a FLIGHT comes FROM A ROW on a SHELF");
        for (int fk = 0; fk < 73; fk += fk % 10 == 2 ? 8 : 1) {
            NarrowBox x = eachFeltTold();
            x.row(fk % 6, 3 + fk % 2, 1);
            x.put(fk % 6, 0, 4 * fk);
            DUE.is("one", x.feltRow(fk, fk % 6, 0), 1);
            for (int other = 0; other < 73; other++) {
                int due = other % 10 > 2 ? VOID : other == fk ? fk : 1000 + other;
                DUE.is("of " + other, x.feels(other, 199), due);
            }
            DUE.is("no more", x.feltRow(fk, -1, 0), 0);
            for (int other = 0; other < 73; other++) {
                DUE.is("of " + other, x.feels(other, 199), other % 10 > 2 ? VOID : 1000 + other);
            }
        }
    }

    /** FLIGHTS 0 .. 7, of which FELT k of FLIGHT f is 1000 + 10 f + k. */
    private static NarrowBox eachFeltTold() {
        NarrowBox x = new NarrowBox();
        for (int f = 0; f < 8; f++) {
            x.flight();
            for (int k = 0; k < 3; k++) x.felt(10 * f + k, 1000 + 10 * f + k, 0, 99999);
        }
        return x;
    }

    private static void asWhenTold() {
        DUE.says("(Elements as they are when told.)");
        NarrowBox x = rowOf(4, 40, 44);
        x.box(0);
        x.feltRow(0, 0, 0);
        x.put(0, 0, 80);
        DUE.is("as it was told", x.feels(0, 0), 10);
        x.noNumber(0, 1);
        DUE.is("a number still", x.feels(0, 1), 11);
        x.row(0, 4, 1);
        DUE.is("another row comes", x.feels(0, 1), 11);
        x.keep(0, 0);
        DUE.is("a box comes", x.feels(0, 0), 10);
        x.keep(0, -1);
        DUE.is("nothing is there", x.feels(0, 1), 11);
        x.feltRow(0, 0, 0);
        DUE.is("told once more", x.feels(0, 1), 0);
        x.row(0, 4, 1);
        x.put(0, 0, 8);
        DUE.is("missing when it was told", x.feels(0, 0), 0);
    }

    private static void noMore() {
        DUE.says("(as it is now; shelf -1: no more)");
        NarrowBox x = rowOf(4, 40, 44);
        x.felt(0, 3, 2, 9);
        x.feltRow(0, 0, 0);
        DUE.is("felt() does not end it", x.felt(0, 4, 1, 8), 1);
        DUE.is("the row", x.feels(0, 1), 11);
        for (int i : new int[] {0, -1, 99, Integer.MIN_VALUE, Integer.MAX_VALUE}) {
            x.feltRow(0, 0, 0);
            DUE.is("no more", x.feltRow(0, -1, i), 0);
            DUE.is("what felt() told last", x.feels(0, 1), 5);
            DUE.is("held by its cap", x.feels(0, 199), 8);
            DUE.is("there was none", x.feltRow(0, -1, i), 0);
        }
        DUE.is("a shelf below that", x.feltRow(0, -2, 0), BAD);
        DUE.is("a shelf above all", x.feltRow(0, 6, 0), BAD);
    }

    private static void otherKinds() {
        DUE.says("BAD, -12 (no ROW of floats or doubles; a SHELF that holds nothing is missing).");
        NarrowBox x = rowOf(4, 40, 44);
        x.box(0);
        x.feltRow(0, 0, 0);
        x.keep(5, 0);
        for (int sort = 0; sort < 3; sort++) {
            for (int n : new int[] {0, 1, 60}) {
                x.row(1, sort, n);
                for (int i : new int[] {-1, 0, 60}) DUE.is("sort " + sort, x.feltRow(0, 1, i), -12);
            }
        }
        for (int i : new int[] {-1, 0, 60}) DUE.is("a box", x.feltRow(0, 5, i), -12);
        DUE.is("nothing was changed", x.feels(0, 1), 11);
    }

    private static void inARun() {
        DUE.says("NAMES: r0 .. r7; i0 .. i3 (INPUTS); f0 .. f2 (what is FELT now); t the TICK");
        NarrowBox x = rowOf(3, 40, 44);
        x.flight();
        x.box(0);
        x.feltRow(10, 0, 0);
        x.felt(11, 5, -2, 3);
        x.felt(12, -1, 1, 9);
        x.felt(0, 70, 1, 99);
        Due.program(x, 0, "r0=r0*100+f0;r1=r1*10+f1+5;r2=r2*10+f2+1;r3=t");
        x.run(1, 2);
        int[] want = {1011, 88, 1, 1};
        for (int slot = 0; slot < 4; slot++) DUE.is("slot " + slot, x.ofRun(0, slot), want[slot]);
        x.run(0, 2);
        DUE.is("of the other flight", x.ofRun(0, 0), 7071);
    }

    private static void spanOfEach() {
        DUE.says("SPANS: a machine (0 the OLDER, 1 the NEWER) has for FELT 0 .. 2 a least and a greatest (told; 0, 0 at first).");
        NarrowBox x = new NarrowBox();
        x.box(0);
        Due.program(x, 0, "!r0=f0;!r1=f1;!r2=f2");
        for (int mk : new int[] {0, 1, 2, 10, 11, 12}) {
            for (int what = 0; what < 2; what++) DUE.is("0 at first", x.bounds(mk / 10, 0, mk % 10, what), 0);
        }
        for (int mk : new int[] {0, 1, 2, 10, 11, 12}) DUE.is("span", x.span(mk, -mk - 3, 2 * mk), 1);
        for (int mk : new int[] {0, 1, 2, 10, 11, 12}) {
            DUE.is("least", x.bounds(mk / 10, 0, mk % 10, 0), -mk - 3);
            DUE.is("greatest", x.bounds(mk / 10, 0, mk % 10, 1), 2 * mk);
            DUE.is("the least above the greatest", x.span(mk, 6, 5), BAD);
            DUE.is("both alike", x.span(mk, 5, 5), 1);
            DUE.is("told last", x.bounds(mk / 10, 0, mk % 10, 0), 5);
        }
        for (int mk : new int[] {-1, 3, 9, 13, 19, 20, 21, -10, -11}) DUE.is("no such", x.span(mk, 0, 0), BAD);
    }

    private static void spanLimits() {
        DUE.says("FELT 0 .. 2 each START (-99999 .. 99999)");
        NarrowBox x = new NarrowBox();
        x.box(0);
        Due.program(x, 0, "!r0=f0");
        DUE.is("as far as a flight begins", x.span(0, -99999, 99999), 1);
        DUE.is("least", x.bounds(0, 0, 0, 0), -99999);
        DUE.is("greatest", x.bounds(0, 0, 0, 1), 99999);
        int[][] beyond = {{-100000, 0}, {0, 100000}, {-100000, -100000}, {100000, 100000}, {Integer.MIN_VALUE, Integer.MAX_VALUE},
            {Integer.MIN_VALUE, Integer.MIN_VALUE}, {Integer.MAX_VALUE, Integer.MAX_VALUE}};
        for (int[] b : beyond) DUE.is("beyond it", x.span(0, b[0], b[1]), BAD);
        DUE.is("nothing was changed", x.bounds(0, 0, 0, 1), 99999);
        DUE.is("one number at the end", x.span(0, 99999, 99999), 1);
        DUE.is("and at the other", x.span(0, -99999, -99999), 1);
    }

    private static void allFlights() {
        DUE.says("FELT k begins at each of least .. greatest (STEP, CAP of a told FLIGHT, its ROWS left aside");
        for (int machine = 0; machine < 2; machine++) {
            for (int k = 0; k < 3; k++) {
                NarrowBox x = new NarrowBox();
                x.flight();
                x.box(0);
                x.span(10 * machine + k, -3, 4);
                for (int v = -4; v <= 5; v++) {
                    Due.program(x, 0, "r0=1/(f" + k + "-(" + v + "))");
                    boolean within = v >= -3 && v <= 4;
                    DUE.is("where it is " + v, x.all(machine, 0, 1), within ? v + 3 : NOT);
                    DUE.is("the other machine", x.all(1 - machine, 0, 1), v == 0 ? 0 : NOT);
                    if (within && v != 0) DUE.is("it began so", x.began(k), v);
                }
            }
        }
    }

    private static void allOfTheNewer() {
        DUE.says("ALL FLIGHTS of a machine for n TICKS");
        NarrowBox x = new NarrowBox();
        x.flight();
        x.box(0);
        for (int k = 0; k < 3; k++) {
            x.span(k, -7 - k, -7 - k);
            x.span(10 + k, 20 + k, 22 + 2 * k);
        }
        Due.program(x, 0, "r0=1/(f1-23)");
        DUE.is("what is not read is left at its least", x.all(1, 0, 1), 2 * 5);
        int[] began = {20, 23, 22};
        for (int k = 0; k < 3; k++) DUE.is("it began", x.began(k), began[k]);
        Due.program(x, 0, "r0=1/((f0-22)|(f1-24)|(f2-26))");
        DUE.is("the very last", x.all(1, 0, 1), 3 * 4 * 5 - 1);
        Due.program(x, 0, "r0=1/((f0-20)|(f1-21)|(f2-22))");
        DUE.is("the very first", x.all(1, 0, 1), 0);
        Due.program(x, 0, "r0=1/((f0-21)|(f2-22))");
        DUE.is("by two", x.all(1, 0, 1), 1 * 4 * 5);
        Due.program(x, 0, "r0=1/0");
        DUE.is("by none", x.all(1, 0, 1), 0);
        for (int k = 0; k < 3; k++) DUE.is("began at the least", x.began(k), 20 + k);
        DUE.is("of the older", x.all(0, 0, 1), 0);
        for (int k = 0; k < 3; k++) DUE.is("began at its own", x.began(k), -7 - k);
    }

    /** A FLIGHT and a BOX, and spans of the older machine with 3 by 4 by 5 rows of beginnings. */
    private static NarrowBox spannedBox() {
        NarrowBox x = new NarrowBox();
        x.flight();
        x.box(0);
        x.span(0, 0, 2);
        x.span(1, 5, 8);
        x.span(2, -1, 3);
        return x;
    }

    private static void allInOrder() {
        DUE.says("in order (FELT 0 counts most): the first by which a FAULT is not caught: how many ahead of it; NOT: none.");
        for (int a = 0; a <= 2; a++) {
            NarrowBox x = spannedBox();
            for (int b = 5; b <= 8; b++) {
                for (int c = -1; c <= 3; c++) {
                    Due.program(x, 0, "r0=1/((f0<" + a + ")|(f0=" + a + ")&(f1<" + b + ")|(f0=" + a + ")&(f1=" + b + ")&(f2<" + c + "))");
                    DUE.is("how many ahead", x.all(0, 0, 1), (a * 4 + b - 5) * 5 + c + 1);
                    DUE.is("it began", 10000 * x.began(0) + 100 * x.began(1) + x.began(2), 10000 * a + 100 * b + c);
                }
            }
        }
        NarrowBox x = spannedBox();
        Due.program(x, 0, "r0=1/(f0-1);kr0=1;r0=1/(f1-7)");
        DUE.is("a fault that is caught does not count", x.all(0, 0, 1), 10);
        x.box(0);
        Due.program(x, 1, "r0=1/(f2-2)");
        DUE.is("of any box", x.all(0, 0, 1), 3);
    }

    private static void allOfEachFelt() {
        DUE.says("FELT k begins at each of least .. greatest");
        for (int k = 0; k < 3; k++) {
            NarrowBox x = new NarrowBox();
            x.flight();
            x.box(0);
            for (int other = 0; other < 3; other++) x.span(other, 32760, 32771);
            Due.program(x, 0, "r0=f" + k);
            x.span((k + 1) % 3, 32760, 32760);
            x.span((k + 2) % 3, 99999, 99999);
            DUE.is("32768 does not fit", x.all(0, 0, 1), 8);
            DUE.is("it began", x.began(k), 32768);
            Due.program(x, 0, "?t=5:r0=f" + k + "+2");
            DUE.is("32766 and 2 does not fit", x.all(0, 0, 6), 6);
            Due.program(x, 0, "r7=0;kr1=f" + k);
            DUE.is("passed over", x.all(0, 0, 6), NOT);
        }
    }

    private static void allByStepAndCap() {
        DUE.says("(STEP, CAP of a told FLIGHT, its ROWS left aside");
        NarrowBox x = new NarrowBox();
        x.flight();
        x.flight();
        x.box(0);
        x.felt(0, 999, 3, 50);
        x.felt(10, -999, -2, 7);
        x.span(0, 0, 20);
        Due.program(x, 0, "r0=1/(f0-50)");
        DUE.is("20 and 10 steps of 3", x.all(0, 0, 11), 20);
        DUE.is("one tick less", x.all(0, 0, 10), NOT);
        DUE.is("held by the cap in many", x.all(0, 0, 200), 0);
        Due.program(x, 0, "r0=1/(f0-51)");
        DUE.is("never above the cap", x.all(0, 0, 200), NOT);
        Due.program(x, 0, "r0=1/(f0+7)");
        DUE.is("0 less 4 steps of 2 of the other flight", x.all(0, 1, 5), 0);
        Due.program(x, 0, "r0=1/(f0-7)");
        DUE.is("7 is the first that is held at 7", x.all(0, 1, 1), 7);
        x.row(0, 4, 1);
        x.put(0, 0, 4 * 51);
        x.feltRow(0, 0, 0);
        Due.program(x, 0, "r0=1/(f0-51)");
        DUE.is("rows are left aside", x.all(0, 0, 200), NOT);
        DUE.is("but not in a run", x.run(0, 1), 1);
        Due.program(x, 0, "r0=1/(f0-50)");
        DUE.is("what is under them counts", x.all(0, 0, 11), 20);
    }

    private static void allBig() {
        DUE.says("at most 2000 rows of beginnings of all three, else BIG");
        int[][] sizes = {{2000, 1, 1}, {1, 2000, 1}, {1, 1, 2000}, {20, 10, 10}, {2, 1000, 1}, {1, 40, 50}, {2001, 1, 1}, {1, 2001, 1},
            {1, 1, 2001}, {3, 667, 1}, {23, 29, 3}, {13, 14, 11}, {199999, 199999, 199999}, {199999, 1, 1}, {2, 1, 1001}, {44, 45, 1}, {45, 45, 1}};
        for (int[] size : sizes) {
            long rows = (long) size[0] * size[1] * size[2];
            NarrowBox x = new NarrowBox();
            x.flight();
            for (int k = 0; k < 3; k++) x.span(10 + k, size[k] / 2 - size[k] + 1, size[k] / 2);
            DUE.is(rows + " rows", x.all(1, 0, 1), rows > 2000 ? BIG : NOT);
            DUE.is("one row", x.all(0, 0, 1), NOT);
            for (int k = 0; k < 3; k++) DUE.is("none was found", x.began(k), VOID);
        }
        NarrowBox x = new NarrowBox();
        x.flight();
        x.box(0);
        Due.program(x, 0, "r0=1/(f2-1999)");
        x.span(2, 0, 1999);
        DUE.is("the last of 2000", x.all(0, 0, 1), 1999);
        x.span(2, -1, 1999);
        DUE.is("2001", x.all(0, 0, 1), BIG);
        DUE.is("it changed nothing", x.began(2), 1999);
    }

    private static void allNot() {
        DUE.says("how many ahead of it; NOT: none.");
        NarrowBox x = new NarrowBox();
        x.flight();
        DUE.is("no boxes", x.all(0, 0, 200), NOT);
        x.box(0);
        DUE.is("no programs", x.all(1, 0, 200), NOT);
        Due.program(x, 0, "r0=1/(t-5)");
        DUE.is("too few ticks", x.all(0, 0, 5), NOT);
        DUE.is("none began", x.began(0), VOID);
        DUE.is("enough", x.all(0, 0, 6), 0);
        DUE.is("it began", x.began(0), 0);
        DUE.is("all ticks", x.all(0, 0, 200), 0);
    }

    private static void began() {
        DUE.says("FELT k at the beginning of the first of the latest all() that found one. VOID: BAD, none.");
        NarrowBox x = new NarrowBox();
        x.flight();
        x.box(0);
        Due.program(x, 0, "r0=1/(f0-2)");
        for (int k = -1; k <= 3; k++) DUE.is("none yet", x.began(k), VOID);
        x.span(0, 0, 5);
        x.span(1, 6, 7);
        x.span(2, -9, -8);
        DUE.is("found", x.all(0, 0, 1), 2 * 4);
        int[] want = {VOID, 2, 6, -9, VOID};
        for (int k = -1; k <= 3; k++) DUE.is("began " + k, x.began(k), want[k + 1]);
        x.span(0, 3, 5);
        DUE.is("not found", x.all(0, 0, 1), NOT);
        DUE.is("bad", x.all(0, 0, 0), BAD);
        x.span(1, 0, 9999);
        DUE.is("big", x.all(0, 0, 1), BIG);
        DUE.is("run() finds none", x.run(0, 1), 0);
        for (int k = -1; k <= 3; k++) DUE.is("began still " + k, x.began(k), want[k + 1]);
        x.span(1, 6, 7);
        x.span(0, 2, 2);
        x.felt(0, 0, 0, 1);
        Due.program(x, 0, "r0=1/(f0-1)");
        DUE.is("held by its cap", x.all(0, 0, 1), 0);
        DUE.is("it began where it began", x.began(0), 2);
    }

    private static void bounds(String e, int least, int greatest) {
        NarrowBox x = new NarrowBox();
        x.box(0);
        x.box(2);
        x.span(10, -3, 4);
        x.span(11, 2, 5);
        x.span(12, -6, -2);
        x.bits(1, 1, 4);
        x.bits(1, 2, 2);
        x.bits(1, 3, 20);
        DUE.is(e, Due.program(x, 1, "r0=1;?f0/f0:r1=1;k!r0=" + e), 3);
        DUE.is("least of " + e, x.bounds(1, 1, 2, 0), least);
        DUE.is("greatest of " + e, x.bounds(1, 1, 2, 1), greatest);
        DUE.is("a gap of " + e, x.gaps(1, 1), least == VOID ? 4 : 0);
    }

    private static void isOver(String e) {
        bounds(e, VOID, VOID);
    }

    private static void shownNames() {
        DUE.says("a NAME r by its BITS' bounds; i: -32768 .. 32767; f by SPANS; t: 0 .. 199; e 0 .. 4");
        bounds("r0", -32768, 32767);
        bounds("r1", -8, 7);
        bounds("r2", -2, 1);
        bounds("r3", -524288, 524287);
        for (int i = 0; i < 4; i++) bounds("i" + i, -32768, 32767);
        bounds("f0", -3, 4);
        bounds("f1", 2, 5);
        bounds("f2", -6, -2);
        bounds("t", 0, 199);
        bounds("e", 0, 4);
        bounds("0", 0, 0);
        bounds("99999", 99999, 99999);
    }

    private static void shownSums() {
        DUE.says("sums, differences, products by their ends");
        bounds("f0+f1", -1, 9);
        bounds("f0-f1", -8, 2);
        bounds("f1-f2", 4, 11);
        bounds("f0+f0-f0", -10, 11);
        bounds("f0*f1", -15, 20);
        bounds("f1*f0", -15, 20);
        bounds("f0*f2", -24, 18);
        bounds("f2*f2", 4, 36);
        bounds("f0*f0", -12, 16);
        bounds("f1*f2", -30, -4);
        bounds("f1*f1", 4, 25);
        bounds("0*f0", 0, 0);
        bounds("-f0", -4, 3);
        bounds("-f2", 2, 6);
        bounds("--f0", -3, 4);
        bounds("-(f0+f1)", -9, 1);
        bounds("f0-(f1-f2)", -14, 0);
        bounds("r1*r2+t", -14, 215);
    }

    private static void shownSize() {
        DUE.says("OVER: beyond 1000000000 in size");
        bounds("99999*10000+10000", 1000000000, 1000000000);
        isOver("99999*10000+10001");
        bounds("-99999*10000-10000", -1000000000, -1000000000);
        isOver("-99999*10000-10001");
        bounds("-(99999*10000+10000)", -1000000000, -1000000000);
        isOver("(99999+1)*10000*(1+(2<1))/99999");
        isOver("(99999+1)*10000*2");
        isOver("(99999+1)*-10000*2");
        bounds("(99999*10000+9996)+e", 999999996, 1000000000);
        isOver("(99999*10000+9997)+e");
        bounds("0-(99999*10000+9996)-e", -1000000000, -999999996);
        isOver("0-(99999*10000+9997)-e");
        isOver("i0*i1");
        isOver("i0*-i1");
        bounds("i0*30517", -999981056, 999950539);
        isOver("i0*30518");
        bounds("31622*31622", 999950884, 999950884);
        isOver("31623*31623");
    }

    private static void shownQuotients() {
        DUE.says("/ by what has no 0 in it: by all four ends' quotients; with 0 in it: OVER");
        bounds("9/f1", 1, 4);
        bounds("9/f2", -4, -1);
        bounds("-9/f1", -4, -1);
        bounds("-9/f2", 1, 4);
        bounds("(f0*10)/f1", -15, 20);
        bounds("(f0*10)/f2", -20, 15);
        bounds("f0/f1", -1, 2);
        bounds("f0/f2", -2, 1);
        bounds("(f0*10-50)/f1", -40, -2);
        bounds("(f0*10-50)/f2", 1, 40);
        bounds("7/1", 7, 7);
        bounds("7/-1", -7, -7);
        bounds("9/(e+1)", 1, 9);
        bounds("9/(e-5)", -9, -1);
        isOver("9/e");
        isOver("9/(e-4)");
        isOver("9/(e-2)");
        isOver("9/0");
        isOver("0/f0");
        isOver("9/t");
        isOver("9/(1-1)");
        isOver("9/(1<2)");
        bounds("0/f1", 0, 0);
    }

    private static void shownRests() {
        DUE.says("% : - m .. m, m the greatest size of what it goes by less 1 (with 0 in it: OVER)");
        bounds("9%f1", -4, 4);
        bounds("9%f2", -5, 5);
        bounds("f0%1", 0, 0);
        bounds("f0%-1", 0, 0);
        bounds("9%(e+1)", -4, 4);
        bounds("9%(e-5)", -4, 4);
        bounds("0%7", -6, 6);
        bounds("t%(t+1)", -199, 199);
        bounds("1%(r1-9)", -16, 16);
        isOver("9%e");
        isOver("9%(e-4)");
        isOver("9%f0");
        isOver("9%0");
        isOver("0%t");
    }

    private static void shownTruth() {
        DUE.says("< = > | & : 0 .. 1");
        for (String e : new String[] {"1<2", "2<1", "1=1", "1=2", "2>1", "1>2", "0|0", "1|1", "0&0", "1&1", "f0<f1", "i0&i1"}) bounds(e, 0, 1);
        bounds("(1<2)+(1=1)+(2>1)+(0|0)+(0&0)", 0, 5);
        bounds("-(1<2)", -1, 0);
    }

    private static void shownOfTheLatestProgram() {
        DUE.says("THE TAPE becomes the PROGRAM of a BOX");
        NarrowBox x = new NarrowBox();
        x.box(0);
        String[] longer = {"r0=1+1+1+1+1+1", "r0=1/0;r1=1/0;r2=1/0", "r0=1|1|1|1", "r0=-----1;r1=----(1/0)"};
        String[] shorter = {"r0=7", "r0=-7", "r0=3+4", "r0=-3-4", "r0=t", "r0=-(t+1)"};
        int[][] want = {{7, 7}, {-7, -7}, {7, 7}, {-7, -7}, {0, 199}, {-200, -1}};
        for (String former : longer) {
            for (int i = 0; i < shorter.length; i++) {
                for (String text : new String[] {former, former, shorter[i]}) Due.program(x, 0, text);
                for (int what = 0; what < 2; what++) DUE.is("bounds behind " + former, x.bounds(0, 0, 0, what), want[i][what]);
                DUE.is("gaps behind " + former, x.gaps(0, 0), 0);
                DUE.is("lines behind " + former, x.line(0, 1, 3), BAD);
            }
        }
    }

    private static void shownWithoutTests() {
        DUE.says("(TESTS and CATCHES left aside; all LINES as if done)");
        NarrowBox x = new NarrowBox();
        x.box(0);
        Due.program(x, 0, "?0:r0=t;kr0=e+1;k?1/0:r0=7;r0=5;?99999*99999:r0=r0");
        int[][] want = {{0, 199}, {1, 5}, {7, 7}, {5, 5}, {-32768, 32767}};
        for (int l = 0; l < 5; l++) {
            for (int what = 0; what < 2; what++) DUE.is("line " + l, x.bounds(0, 0, l, what), want[l][what]);
        }
        DUE.is("no gap", x.gaps(0, 0), 0);
    }

    private static void over() {
        DUE.says("or beyond the TARGET's bounds (with a WATCH: not by these)");
        for (int b = 2; b <= 20; b++) {
            int greatest = (1 << b - 1) - 1;
            for (int end : new int[] {greatest, greatest + 1, -greatest - 1, -greatest - 2}) {
                boolean fits = end <= greatest && end >= -greatest - 1;
                NarrowBox x = new NarrowBox();
                x.box(0);
                x.bits(0, 3, b);
                String e = end < 0 ? "0-" + -end / 1000 + "*1000-" + -end % 1000 : end / 1000 + "*1000+" + end % 1000;
                Due.program(x, 0, "r3=" + e + ";!r3=" + e + ";r3=0");
                DUE.is(end + " in " + b + " bits", x.gaps(0, 0), fits ? 0 : 1);
                DUE.is("its bound is told", x.bounds(0, 0, 0, 0), end);
                x.watch(0, 0, 1);
                x.watch(0, 1, 0);
                DUE.is("the other is watched", x.gaps(0, 0), fits ? 0 : 2);
            }
        }
        NarrowBox x = new NarrowBox();
        x.box(0);
        Due.program(x, 0, "s0=32767;s1=32768;s2=0-32768;s3=-32769;!s3=32768");
        DUE.is("ports", x.gaps(0, 0), 0b01010);
        for (int slot = 0; slot < 8; slot++) x.bits(0, slot, 2);
        DUE.is("ports keep their bits", x.gaps(0, 0), 0b01010);
    }

    private static void gaps() {
        DUE.says("GAPS: LINES of a BOX that are OVER, as bits.");
        NarrowBox x = new NarrowBox();
        for (int b = 0; b < 6; b++) x.box(b);
        for (int b = 0; b < 6; b++) DUE.is("no lines", x.gaps(1, b), 0);
        for (int l = 0; l < 12; l++) {
            StringBuilder text = new StringBuilder();
            for (int i = 0; i < 12; i++) text.append(i == 0 ? "" : ";").append(i == l ? "r0=1/f0" : "r0=f0");
            Due.program(x, l % 6, text.toString());
            DUE.is("line " + l, x.gaps(0, l % 6), 1 << l);
            x.span(10, 1, 2);
            DUE.is("not of the newer", x.gaps(1, l % 6), 0);
        }
        Due.program(x, 2, "r0=1/0" + ";r0=1/0".repeat(11));
        DUE.is("all twelve", x.gaps(0, 2), 4095);
    }

    private static void partThatIsOver() {
        DUE.says("(A part that is OVER makes all OVER.)");
        for (String e : new String[] {"0*(1/0)", "1<1/t", "0&1%t", "1|99999*99999", "99999*99999-99999*99999", "(99999*99999)%7",
            "(99999*99999)/99999", "7%(99999*99999)", "-(1/0)", "1-1/f0", "(1/f0)*0", "(1/f0)=0", "0<(1/f0)"}) isOver(e);
        NarrowBox x = new NarrowBox();
        x.box(0);
        Due.program(x, 0, "!r0=1/0;r1=99999;!r1=99999");
        DUE.is("a watch does not help then", x.gaps(0, 0), 0b011);
        DUE.is("OVER within", x.bounds(0, 0, 0, 0), VOID);
        DUE.is("only beyond its target", x.bounds(0, 0, 1, 1), 99999);
    }

    private static void like() {
        DUE.says("LIKE: LINES of all BOXES that are OVER (100 times the BOX and the LINE): how many, the i-th.");
        NarrowBox x = new NarrowBox();
        DUE.is("no boxes", x.like(0, -1), 0);
        DUE.is("none such", x.like(0, 0), BAD);
        for (int b = 0; b < 6; b++) {
            x.box(b);
            Due.program(x, b, b % 2 == 0 ? "r0=1/f0;r0=1;r0=1/(f0-1)" : "r0=1" + ";r0=1".repeat(10) + ";r0=1/f0");
        }
        int[] older = {0, 100 + 11, 200, 300 + 11, 400, 500 + 11};
        DUE.is("how many", x.like(0, -1), 6);
        for (int i = 0; i < 6; i++) DUE.is("the one " + i, x.like(0, i), older[i]);
        x.span(10, 1, 5);
        int[] newer = {2, 202, 402};
        DUE.is("how many of the newer", x.like(1, -1), 3);
        for (int i = 0; i < 3; i++) DUE.is("the one " + i, x.like(1, i), newer[i]);
        for (int i : new int[] {-2, 3, 4, Integer.MAX_VALUE, Integer.MIN_VALUE}) DUE.is("none such", x.like(1, i), BAD);
        for (int machine : new int[] {-1, 2}) DUE.is("no such machine", x.like(machine, -1), BAD);
        for (int b = 0; b < 6; b++) Due.program(x, b, "r0=1/0" + ";r0=1/0".repeat(11));
        DUE.is("all 72", x.like(1, -1), 72);
        DUE.is("the last", x.like(1, 71), 511);
        DUE.is("none behind", x.like(1, 72), BAD);
    }
}
