/** Part 1 of the terms, sentence by sentence: what E gives, what a TICK does, and RUNS. */
public final class RunSentencesTest {
    private static final Due DUE = new Due();
    private static final int BAD = NarrowBox.BAD, NOT = NarrowBox.NOT, VOID = NarrowBox.VOID;
    private static final String[] DEADLY = {"", "r0=99999", "r0=99999*99999", "r0=1/0"};

    public static void main(String[] args) {
        boxesAsTheyCome();
        firstBits();
        slotsHold();
        portsHold();
        portsAtFirst();
        inputs();
        rewired();
        size();
        sizeInAnyPart();
        byZero();
        towardZero();
        truth();
        allPartsFromTheLeft();
        neverWrap();
        faultRead();
        faultsToldByFar();
        test();
        watchHolds();
        watchDoesNotHold();
        restIsLeftOut();
        catchesPassedOver();
        faultInACatch();
        testOfACatchIsZero();
        caughtFault();
        dead();
        staysTillTheFault();
        ticks();
        asAtFirst();
        allAtOnce();
        firstFault();
        ofRun();
        ofRunNone();
        runWithoutBoxes();
        DUE.end();
    }

    private static NarrowBox ran(int kind, String text, int n) {
        NarrowBox x = new NarrowBox();
        x.box(kind);
        x.flight();
        int lines = Due.program(x, 0, text);
        if (lines < 1) throw new IllegalArgumentException(text);
        x.run(0, n);
        return x;
    }

    private static void gives(String text, int n, int what, int want) {
        DUE.is(text + " of " + what, ran(0, text, n).ofRun(0, what), want);
    }

    /** What E gives: put in r0 of 20 bits; or the FAULT, from -2000000 down. */
    private static int value(String e) {
        NarrowBox x = new NarrowBox();
        x.box(0);
        x.flight();
        x.felt(0, 5, 1, 99999);
        x.bits(0, 0, 20);
        int lines = Due.program(x, 0, "r0=" + e);
        if (lines != 1) throw new IllegalArgumentException(e);
        x.run(0, 1);
        return x.ofRun(0, 30) == 1 ? -2000000 - x.firstFault(3) : x.ofRun(0, 0);
    }

    private static void is(String e, int want) {
        DUE.is(e, value(e), want);
    }

    private static void isFault(String e, int fault) {
        DUE.is(e, value(e), -2000000 - fault);
    }

    /** A number of any size as an E. */
    private static String number(long v) {
        if (v < 0) return "0-(" + number(-v) + ")";
        return v <= 99999 ? "" + v : v / 99999 + "*99999+" + v % 99999;
    }

    private static void boxesAsTheyCome() {
        DUE.says("BOXES 0 .. 5, as they come, are BODIES of KINDS: 0 BOX; 1 TWIN under BOX; 2 STEERING under BOX; 3 FEELING under BOX; 4 KEPT under BOX; 5 TRIMMED under KEPT; 6 TRIED under FEELING.");
        for (int first = 0; first < 7; first++) {
            NarrowBox x = new NarrowBox();
            DUE.is("kind -1", x.box(-1), BAD);
            for (int b = 0; b < 6; b++) {
                int kind = (first + b) % 7;
                DUE.is("box " + b, x.box(kind), b);
                DUE.is("a bad kind between", x.box(7), BAD);
                DUE.is("boxes", x.count(0), b + 1);
                x.keep(0, b);
                DUE.is("its kind", x.taken(0, kind), kind);
            }
            for (int kind = 0; kind < 7; kind++) DUE.is("a seventh", x.box(kind), NarrowBox.FULL);
            DUE.is("six boxes", x.count(0), 6);
        }
    }

    private static void firstBits() {
        DUE.says("SLOTS r0 .. r7 of BITS 2 .. 20 (told; 16 at first)");
        NarrowBox x = new NarrowBox();
        x.box(0);
        x.box(0);
        for (int slot = 0; slot < 8; slot++) DUE.is("at first", x.bits(0, slot, 2 + slot), 16);
        for (int slot = 0; slot < 8; slot++) DUE.is("told", x.bits(0, slot, 13 + slot), 2 + slot);
        for (int slot = 0; slot < 8; slot++) DUE.is("of the other box", x.bits(1, slot, 16), 16);
        for (int b = -3; b <= 30; b++) DUE.is("told " + b, x.bits(1, 4, b) == BAD ? 0 : 1, b >= 2 && b <= 20 ? 1 : 0);
        DUE.is("the last one that was taken", x.bits(1, 4, 16), 20);
    }

    private static void slotsHold() {
        DUE.says("a SLOT of b BITS holds - 2 to the (b - 1) .. 2 to the (b - 1) less 1; 0 at first");
        for (int b = 2; b <= 20; b++) {
            int slot = b % 8;
            int least = -(1 << b - 1);
            int greatest = (1 << b - 1) - 1;
            for (int v : new int[] {least - 1, least, least + 1, 0, greatest - 1, greatest, greatest + 1}) {
                boolean fits = v >= least && v <= greatest;
                NarrowBox x = new NarrowBox();
                x.box(0);
                x.flight();
                x.bits(0, slot, b);
                Due.program(x, 0, "r" + slot + "=" + number(v));
                DUE.is(v + " in " + b + " bits", x.run(0, 1), fits ? 0 : 1);
                DUE.is("it holds", x.ofRun(0, slot), fits ? v : 0);
                DUE.is("by fault 1", x.ofRun(0, 20), fits ? 0 : 1);
                Due.program(x, 0, "!r" + slot + "=" + number(v));
                DUE.is("watched", x.run(0, 1), 0);
                DUE.is("the greatest or least that fits", x.ofRun(0, slot), v < least ? least : v > greatest ? greatest : v);
                DUE.is("a number that did not fit is no fault then", x.ofRun(0, 32), 0);
            }
        }
    }

    private static void portsHold() {
        DUE.says("a SLOT by its BITS (a PORT has 16)");
        for (int port = 0; port < 4; port++) {
            for (int v : new int[] {-32769, -32768, 0, 32767, 32768}) {
                boolean fits = v >= -32768 && v <= 32767;
                NarrowBox x = new NarrowBox();
                x.box(0);
                x.flight();
                for (int slot = 0; slot < 8; slot++) x.bits(0, slot, 2);
                Due.program(x, 0, "s" + port + "=" + number(v));
                x.run(0, 1);
                DUE.is(v + " to a port", x.ofRun(0, 10 + port), fits ? v : VOID);
                DUE.is("its fault", x.ofRun(0, 20 + port), fits ? 0 : 1);
                Due.program(x, 0, "!s" + port + "=" + number(v));
                x.run(0, 1);
                DUE.is("watched", x.ofRun(0, 10 + port), v < -32768 ? -32768 : v > 32767 ? 32767 : v);
            }
        }
    }

    private static void portsAtFirst() {
        DUE.says("PORTS 0 .. 3, each sends a number or a FAULT (a number from 1 on), at first the number 0");
        NarrowBox x = new NarrowBox();
        x.box(0);
        x.box(3);
        x.flight();
        for (int port = 0; port < 4; port++) x.wire(1, port, 0, port);
        Due.program(x, 0, "s0=1;s1=2;s2=3;s3=4");
        Due.program(x, 1, "r0=r0*10+i0;r1=r1*10+i1;r2=r2*10+i2;r3=r3*10+i3");
        x.run(0, 1);
        for (int port = 0; port < 4; port++) {
            DUE.is("0 was read in the first tick", x.ofRun(1, port), 0);
            DUE.is("port " + port, x.ofRun(0, 10 + port), port + 1);
            DUE.is("no fault", x.ofRun(0, 20 + port), 0);
            DUE.is("nothing was sent here", x.ofRun(1, 10 + port), 0);
        }
        x.run(0, 3);
        for (int port = 0; port < 4; port++) DUE.is("read twice", x.ofRun(1, port), 11 * (port + 1));
    }

    private static void inputs() {
        DUE.says("INPUTS 0 .. 3, each WIRED to a PORT of a BOX (it, too) or to none (then the number 0).");
        for (int input = 0; input < 4; input++) {
            for (int port = 0; port < 4; port++) {
                NarrowBox x = new NarrowBox();
                x.box(0);
                x.box(0);
                x.flight();
                Due.program(x, 0, "r0=i" + input + ";s" + port + "=t+5");
                Due.program(x, 1, "r0=i" + input);
                DUE.is("to none at first", x.wire(0, input, 0, port), -1);
                x.run(0, 3);
                DUE.is("it reads itself", x.ofRun(0, 0), 6);
                DUE.is("to none: 0", x.ofRun(1, 0), 0);
                DUE.is("to the last box's", x.wire(1, input, 0, port), -1);
                x.run(0, 3);
                DUE.is("it reads the other", x.ofRun(1, 0), 6);
                DUE.is("no more", x.wire(1, input, -1, 0), port);
                x.run(0, 3);
                DUE.is("0 again", x.ofRun(1, 0), 0);
            }
        }
    }

    private static void rewired() {
        DUE.says("An INPUT is WIRED to a PORT of a BOX (from -1: none): to which it was (10 times the BOX and the PORT; -1). VOID: BAD.");
        NarrowBox x = new NarrowBox();
        for (int b = 0; b < 6; b++) x.box(0);
        for (int b = 0; b < 6; b++) {
            int was = -1;
            for (int from = 0; from < 6; from++) {
                for (int port = 0; port < 4; port++) {
                    DUE.is("it was", x.wire(b, 3 - b % 4, from, port), was);
                    was = 10 * from + port;
                }
            }
            DUE.is("a box below none", x.wire(b, 3 - b % 4, -2, 0), VOID);
            DUE.is("a box that is none", x.wire(b, 3 - b % 4, 6, 0), VOID);
            DUE.is("the last of all", x.wire(b, 3 - b % 4, -1, -1), 53);
            DUE.is("none", x.wire(b, 3 - b % 4, -1, 4), -1);
        }
    }

    private static void size() {
        DUE.says("what goes beyond 1000000000 in size, in any part, is FAULT 2");
        is("(99999*10000+10000)/10000", 100000);
        isFault("(99999*10000+10001)/10000", 2);
        is("(99999*10000+9999-0+1)/10000", 100000);
        is("(-99999*10000-10000)/10000", -100000);
        isFault("(-99999*10000-10001)/10000", 2);
        isFault("(-99999*10000+(-10001))/10000", 2);
        is("(99999*10000-(-10000))/10000", 100000);
        isFault("(99999*10000-(-10001))/10000", 2);
        is("(99999+1)*10000/10000", 100000);
        isFault("(99999+1)*10001/10000", 2);
        is("(99999+1)*-10000/10000", -100000);
        isFault("(99999+1)*-10001/10000", 2);
        is("31622*31622/10000", 99995);
        isFault("31623*31623/10000", 2);
        isFault("-31623*31623/10000", 2);
        is("-((99999+1)*10000)/10000", -100000);
        is("(99999+1)*10000/-10000", -100000);
        is("((99999+1)*10000)%9999", 100000000 % 9999 * 10 % 9999);
    }

    private static void sizeInAnyPart() {
        DUE.says("what goes beyond 1000000000 in size, in any part, is FAULT 2");
        for (String e : new String[] {"99999*99999*0", "0*(99999*99999)", "99999*99999/99999", "1%(99999*99999)",
            "1<99999*99999", "0&99999*99999", "1|99999*99999", "-(99999*99999)", "99999*99999-99999*99999",
            "1+(2-(99999*99999=0))", "(99999+1)*10000+1-1", "1-1+(99999+1)*10000+1"}) {
            isFault(e, 2);
            DUE.is("?" + e, ran(0, "?" + e + ":r0=1", 1).ofRun(0, 20), 2);
            DUE.is("!" + e, ran(0, "!r0=" + e, 1).ofRun(0, 20), 2);
        }
    }

    private static void byZero() {
        DUE.says("/ or % by 0 FAULT 3");
        for (String e : new String[] {"1/0", "0/0", "1%0", "0%0", "-1/0", "-1%0", "1/(2-2)", "1%(f0-5)", "1/t", "1/-0",
            "1/r1", "1%e", "0*(1/0)", "2/(1/2)", "1/i0", "1/(1&0)", "1%(2<1)"}) isFault(e, 3);
        is("0/1", 0);
        is("0%1", 0);
        is("1/1", 1);
        is("1%1", 0);
        is("1/-1", -1);
        is("1%-1", 0);
        DUE.is("in a test", ran(0, "?1/0:r0=1", 1).ofRun(0, 20), 3);
    }

    private static void towardZero() {
        DUE.says("(/ % toward 0)");
        int[][] due = {{7, 2}, {-7, 2}, {7, -2}, {-7, -2}, {6, 3}, {-6, 3}, {1, 2}, {-1, 2}, {1, -2}, {-1, -2}, {0, -5}, {99999, 99998}};
        for (int[] d : due) {
            String of = "(" + number(d[0]) + ")";
            String by = "(" + number(d[1]) + ")";
            int size = Math.abs(d[0]) / Math.abs(d[1]);
            int quotient = d[0] < 0 == d[1] < 0 ? size : -size;
            is(of + "/" + by, quotient);
            is(of + "%" + by, d[0] - quotient * d[1]);
        }
    }

    private static void truth() {
        DUE.says("| & < = > give 1, 0, and all parts are worked out, from the left.");
        int[] numbers = {-99999, -2, -1, 0, 1, 2, 99999};
        for (int a : numbers) {
            for (int b : numbers) {
                String left = "(" + number(a) + ")";
                String right = "(" + number(b) + ")";
                is(left + "|" + right, a != 0 || b != 0 ? 1 : 0);
                is(left + "&" + right, a != 0 && b != 0 ? 1 : 0);
                is(left + "<" + right, a < b ? 1 : 0);
                is(left + "=" + right, a == b ? 1 : 0);
                is(left + ">" + right, a > b ? 1 : 0);
            }
        }
        is("0|0|0|7", 1);
        is("7|0|0|0", 1);
        is("5&6&7&0", 0);
        is("0&6&7&5", 0);
        is("5&6&7&8", 1);
        is("1|0&0", 1);
        is("0&0|1", 1);
        is("1=1&2", 1);
        is("2+2=4", 1);
        is("4=2+2", 1);
        is("1<2+3*4-13", 0);
        is("2*3+4*5", 26);
        is("2+3*4-5", 9);
        is("2-3+4", 3);
        is("2-(3+4)", -5);
        is("24/4/3", 2);
        is("24/(4/2)", 12);
        is("24/4*3", 18);
        is("24%7*2", 6);
        is("-2*3", -6);
        is("2*-3", -6);
        is("--2--3", 5);
        is("-2-3", -5);
    }

    private static void allPartsFromTheLeft() {
        DUE.says("all parts are worked out, from the left");
        for (String op : new String[] {"|", "&", "<", "=", ">", "+", "-", "*", "/", "%"}) {
            isFault("1/0" + op + "(99999*99999)", 3);
            isFault("(99999*99999)" + op + "(1/0)", 2);
            isFault("1" + op + "(1/0)", 3);
            isFault("0" + op + "(1/0)", 3);
            isFault("1" + op + "(99999*99999)", 2);
            isFault("(99999*99999)" + op + "0", 2);
        }
        isFault("1/(1%0-99999*99999)", 3);
        isFault("(1+99999*99999)/0", 2);
        isFault("1/0|99999*99999|1", 3);
        isFault("0|99999*99999|1/0", 2);
    }

    private static void neverWrap() {
        DUE.says("E is worked out in whole numbers that never wrap (longs)");
        isFault("65536*65536", 2);
        isFault("(65536*10000)*(65536*10000)", 2);
        isFault("((99999+1)*10000)*((99999+1)*10000)", 2);
        isFault("(99999+1)*10000+(99999+1)*10000", 2);
        isFault("-(99999+1)*10000-(99999+1)*10000", 2);
        isFault("65536*65536*65536", 2);
    }

    /** Box 0 dies of a fault; box 1, of a kind, reads it behind that. */
    private static NarrowBox reading(int kind, int fault, String text, int n) {
        NarrowBox x = new NarrowBox();
        x.box(0);
        x.box(kind);
        x.box(3);
        x.flight();
        x.wire(2, 0, 0, 0);
        Due.program(x, 0, fault == 4 ? "r0=99999" : DEADLY[fault]);
        Due.program(x, 2, "r0=i0");
        x.wire(1, 1, fault == 4 ? 2 : 0, 3);
        if (Due.program(x, 1, text) < 1) throw new IllegalArgumentException(text);
        x.run(0, n);
        return x;
    }

    private static void faultRead() {
        DUE.says("An INPUT that holds a FAULT c: read by STEERING it is the number 9000 + c; by others FAULT 4.");
        for (int fault = 1; fault <= 4; fault++) {
            int n = fault == 4 ? 3 : 2;
            for (int kind = 0; kind < 7; kind++) {
                NarrowBox x = reading(kind, fault, "r3=7;r0=i1;r4=8", n);
                DUE.is("the fault is sent", x.ofRun(fault == 4 ? 2 : 0, 23), fault);
                DUE.is("kind " + kind + " is dead", x.ofRun(1, 30), kind == 2 ? 0 : 1);
                DUE.is("of fault 4", x.ofRun(1, 20), kind == 2 ? 0 : 4);
                DUE.is("at once", x.ofRun(1, 31), kind == 2 ? -1 : n - 1);
                DUE.is("the number", x.ofRun(1, 0), kind == 2 ? 9000 + fault : 0);
                x = reading(kind, fault, "?i1:r0=5;kr1=e;r2=i1;kr1=e+10", n);
                DUE.is("in a test", x.ofRun(1, 0), kind == 2 ? 5 : 0);
                DUE.is("and once more", x.ofRun(1, 1), kind == 2 ? 0 : 14);
                x = reading(kind, fault, "?0:r0=i1;kr1=e", n);
                DUE.is("not read, no fault", x.ofRun(1, 32), 0);
                x = reading(kind, fault, "r0=i0+i2+i3", n);
                DUE.is("other inputs hold none", x.ofRun(1, 30), 0);
            }
        }
        DUE.is("a fault ahead of the read one", reading(0, 1, "?t=1:r0=1/0+i1", 2).ofRun(1, 20), 3);
        DUE.is("a fault behind the read one", reading(0, 1, "?t=1:r0=i1+1/0", 2).ofRun(1, 20), 4);
        DUE.is("it goes beyond with it", reading(2, 1, "r0=99999*i1*i1", 2).ofRun(1, 20), 2);
        DUE.is("it does not fit", reading(2, 3, "r0=i1*4", 2).ofRun(1, 20), 1);
        DUE.is("9003", reading(2, 3, "r0=9003/(i1-9003)", 2).ofRun(1, 20), 3);
    }

    private static void faultsToldByFar() {
        DUE.says("An INPUT that holds a FAULT c: read by STEERING it is the number 9000 + c");
        for (int fault = 1; fault <= 9; fault++) {
            NarrowBox x = new NarrowBox();
            x.box(0);
            x.box(2);
            x.flight();
            x.wire(1, 0, 0, 0);
            Due.program(x, 1, "r0=1-(i0=900" + fault + "|i0=0)");
            DUE.is("the very number", x.far(0, 0, 9, 1000 * fault), 0b01);
            Due.program(x, 1, "r0=1-(i0=900" + (fault + 1) + "|i0=0)");
            DUE.is("not another one", x.far(0, 0, 9, 1000 * fault), 0b11);
        }
    }

    private static void test() {
        DUE.says("with a TEST that is 0 a LINE is passed over");
        String[] tests = {"0", "1", "2", "-1", "99999", "1-1", "0&1", "0|1", "t", "t-1", "1=2", "-0"};
        int[] done = {0, 1, 1, 1, 1, 0, 0, 1, 1, 0, 0, 0};
        for (int i = 0; i < tests.length; i++) {
            gives("r0=0;?" + tests[i] + ":r0=1;r1=1", 2, 0, done[i]);
            gives("?" + tests[i] + ":r0=1/0;r1=1", 2, 30, tests[i].equals("t-1") ? 1 : done[i]);
        }
    }

    private static void watchHolds() {
        DUE.says("what does not fit is FAULT 1, with a WATCH the greatest or least that fits");
        NarrowBox x = new NarrowBox();
        x.box(0);
        x.flight();
        Due.program(x, 0, "!r1=99999;r2=99999");
        x.run(0, 1);
        DUE.is("the watched one is held", x.ofRun(0, 1), 32767);
        DUE.is("the other is a fault", x.firstFault(2), 1);
        x.watch(0, 1, 1);
        x.watch(0, 0, 0);
        x.run(0, 1);
        DUE.is("now the first one is", x.firstFault(2), 0);
        DUE.is("its number", x.firstFault(3), 1);
        x.watch(0, 0, 1);
        DUE.is("both are watched", x.run(0, 1), 0);
        DUE.is("held", x.ofRun(0, 2), 32767);
        gives("!r0=0-99999", 1, 0, -32768);
        gives("!r0=-32769", 1, 0, -32768);
        gives("!r0=32768", 1, 0, 32767);
        gives("!s0=r0-32769;r0=0", 1, 10, -32768);
    }

    private static void watchDoesNotHold() {
        DUE.says("with a WATCH the greatest or least that fits");
        gives("!r0=99999*99999", 1, 20, 2);
        gives("!r0=1/0", 1, 20, 3);
        gives("?1/0:!r0=1", 1, 20, 3);
        gives("!r0=r1+99999*99999;r1=1", 1, 20, 2);
        DUE.is("a fault that is read", reading(0, 1, "!r0=i1", 2).ofRun(1, 20), 4);
    }

    private static void restIsLeftOut() {
        DUE.says("At a FAULT (in TEST or E, too) the rest is left out up to the next LINE that CATCHES: that is done with e the FAULT, and all goes on behind it");
        for (String deadly : new String[] {"r7=99999", "r7=99999*99999", "r7=1/0", "?1/0:r7=1", "?99999*99999:r7=1"}) {
            int fault = deadly.contains("1/0") ? 3 : deadly.contains("*") ? 2 : 1;
            String text = "r0=1;" + deadly + ";r1=1;r2=1;kr3=e;r4=e+1;kr5=1;r6=1";
            int[] want = {1, 0, 0, fault, 1, 0, 1, 0};
            for (int slot = 0; slot < 8; slot++) gives(text, 1, slot, want[slot]);
            gives(text, 1, 32, 1);
            gives(text, 3, 32, 3);
            gives(text, 1, 30, 0);
            gives(deadly + ";kr3=e", 1, 3, fault);
            gives("r0=1;" + deadly + ";r1=1;kr3=e", 1, 3, fault);
            gives(deadly + ";kr3=e;" + deadly + ";kr3=r3*10+e", 1, 3, 11 * fault);
            gives("kr3=5;" + deadly + ";r1=1;r2=1", 1, 20, fault);
        }
        String twelve = "r7=1/0;" + "r1=1;".repeat(10) + "kr3=e";
        gives(twelve, 1, 3, 3);
        gives(twelve, 1, 1, 0);
        gives("r1=1;".repeat(11) + "kr3=1", 1, 3, 0);
    }

    private static void catchesPassedOver() {
        DUE.says("a LINE that CATCHES is passed over, if nothing was left out for it");
        gives("r0=1;kr1=1;r2=1", 1, 1, 0);
        gives("kr1=1", 1, 1, 0);
        gives("kr1=1/0;r0=1", 1, 30, 0);
        gives("k?1/0:r1=1;r0=1", 1, 30, 0);
        gives("r0=1/0;kr1=1;kr2=1", 1, 1, 1);
        gives("r0=1/0;kr1=1;kr2=1", 1, 2, 0);
        gives("?0:r0=1/0;kr1=1", 1, 1, 0);
        gives("!r0=99999;kr1=1", 1, 1, 0);
        gives("r0=1;kr1=1;r2=1", 1, 32, 0);
    }

    private static void faultInACatch() {
        DUE.says("a FAULT in it is one like others");
        String text = "r0=1/0;kr1=99999;r2=1;kr3=e;r4=1";
        int[] want = {0, 0, 0, 1, 1};
        for (int slot = 0; slot < 5; slot++) gives(text, 1, slot, want[slot]);
        gives(text, 1, 32, 2);
        gives("r0=1/0;kr1=99999;r2=1", 1, 20, 1);
        gives("r0=1/0;kr1=99999;r2=1", 1, 32, 1);
        gives("r0=1/0;k?99999*99999:r1=1;r2=1", 1, 20, 2);
        gives("r0=1/0;kr1=e/0;kr2=e*99999;kr4=e", 1, 4, 1);
        gives("r0=1/0;kr1=e/0;kr2=e*99999;kr4=e", 1, 32, 3);
        gives("r0=1/0;k!r1=e*99999;r2=e", 1, 1, 32767);
        gives("r0=1/0;k!r1=e*99999;r2=e", 1, 30, 0);
        NarrowBox x = ran(0, "r0=1/0;kr1=99999;r2=1", 1);
        DUE.is("the line that was not caught", x.firstFault(2), 1);
        DUE.is("its number", x.firstFault(3), 1);
    }

    private static void testOfACatchIsZero() {
        DUE.says("(if its TEST is 0 the FAULT is caught all the same)");
        gives("r0=1/0;k?0:r1=1;r2=e+1", 1, 30, 0);
        gives("r0=1/0;k?0:r1=1;r2=e+1", 1, 1, 0);
        gives("r0=1/0;k?0:r1=1;r2=e+1", 1, 2, 1);
        gives("r0=1/0;k?0:r1=1;r2=e+1", 1, 32, 1);
        gives("r0=1/0;k?e=1:r1=1;kr2=1", 1, 2, 0);
        gives("r0=1/0;k?e=3:r1=1;kr2=1", 1, 1, 1);
    }

    private static void caughtFault() {
        DUE.says("e the FAULT that was caught (of a LINE that CATCHES; else 0)");
        for (int fault = 1; fault <= 3; fault++) {
            gives(DEADLY[fault] + ";kr1=e*10+e;r2=e;r3=e+1", 1, 1, 11 * fault);
            gives(DEADLY[fault] + ";kr1=e*10+e;r2=e;r3=e+1", 1, 2, 0);
            gives(DEADLY[fault] + ";k?e=" + fault + ":r1=e;r3=e+1", 1, 1, fault);
            gives("r3=e+1;" + DEADLY[fault] + ";kr1=1", 2, 3, 1);
        }
        DUE.is("fault 4", reading(0, 2, "r0=i1;kr1=e", 2).ofRun(1, 1), 4);
    }

    private static void dead() {
        DUE.says("If none is there: the BOX is DEAD from then on: its PORTS all send that FAULT, its SLOTS stay.");
        for (int fault = 1; fault <= 3; fault++) {
            String text = "r5=t;s2=7;kr6=9;?t=3:" + DEADLY[fault] + ";r7=t;s1=t";
            NarrowBox x = ran(0, text, 3);
            DUE.is("alive till then", x.ofRun(0, 30), 0);
            DUE.is("not yet", x.ofRun(0, 31), -1);
            for (int n : new int[] {4, 5, 200}) {
                x = ran(0, text, n);
                DUE.is("dead", x.ofRun(0, 30), 1);
                DUE.is("its tick", x.ofRun(0, 31), 3);
                DUE.is("a slot ahead of the fault", x.ofRun(0, 5), 3);
                DUE.is("a slot behind it", x.ofRun(0, 7), 2);
                for (int port = 0; port < 4; port++) {
                    DUE.is("no number", x.ofRun(0, 10 + port), VOID);
                    DUE.is("all send it", x.ofRun(0, 20 + port), fault);
                }
                DUE.is("none was caught", x.ofRun(0, 32), 0);
            }
        }
    }

    private static void staysTillTheFault() {
        DUE.says("(What it sent and put till the FAULT stays, else.)");
        String text = "r0=t;s0=t+1;r1=1/(t-2);r2=t;s1=t;kr3=e;s3=5";
        int[][] want = {{0, 2}, {10, 3}, {2, 1}, {11, 1}, {3, 3}, {13, 5}, {30, 0}, {32, 1}};
        for (int[] w : want) gives(text, 3, w[0], w[1]);
    }

    private static void ticks() {
        DUE.says("A RUN of a FLIGHT for n TICKS (1 .. 200)");
        for (int n : new int[] {1, 2, 3, 199, 200}) {
            gives("r0=r0+1;r1=t", n, 0, n);
            gives("r0=r0+1;r1=t", n, 1, n - 1);
        }
        NarrowBox x = ran(0, "r0=t", 7);
        for (int n : new int[] {0, 201, -1, Integer.MIN_VALUE, Integer.MAX_VALUE}) DUE.is("not so many", x.run(0, n), BAD);
        DUE.is("the latest stays", x.ofRun(0, 0), 6);
        gives("r0=1/(199-t)", 199, 30, 0);
        gives("r0=1/(199-t)", 200, 31, 199);
    }

    private static void asAtFirst() {
        DUE.says("all BOXES are as at first (SLOTS 0, PORTS 0, none DEAD)");
        NarrowBox x = new NarrowBox();
        x.box(0);
        x.box(0);
        x.flight();
        x.wire(1, 0, 0, 0);
        Due.program(x, 0, "r0=r0+1;s0=r0;r1=1/0;kr2=r2+1;?r0=3:r3=1/0");
        Due.program(x, 1, "r0=r0+i0;kr7=1");
        for (int again = 0; again < 3; again++) {
            DUE.is("one dies", x.run(0, 4), 1);
            DUE.is("its slot", x.ofRun(0, 0), 3);
            DUE.is("caught", x.ofRun(0, 32), 3);
            DUE.is("read", x.ofRun(1, 0), 3);
            DUE.is("none dies", x.run(0, 2), 0);
            DUE.is("its slot", x.ofRun(0, 0), 2);
            DUE.is("its port", x.ofRun(0, 10), 2);
            DUE.is("no fault there", x.ofRun(0, 20), 0);
            DUE.is("caught", x.ofRun(0, 32), 2);
            DUE.is("read", x.ofRun(1, 0), 1);
            DUE.is("nowhere", x.ofRun(0, 31), -1);
            DUE.is("none is first", x.firstFault(0), NOT);
        }
    }

    private static void allAtOnce() {
        DUE.says("INPUTS as PORTS were behind the TICK ahead (all at once)");
        NarrowBox x = new NarrowBox();
        for (int b = 0; b < 6; b++) x.box(0);
        x.flight();
        for (int b = 0; b < 6; b++) {
            x.wire(b, 0, (b + 1) % 6, 0);
            x.wire(b, 1, (b + 5) % 6, 1);
            Due.program(x, b, "s0=i0+1;s1=i1+2;r0=i0;r1=i1");
        }
        for (int n : new int[] {1, 2, 7}) {
            x.run(0, n);
            for (int b = 0; b < 6; b++) {
                DUE.is("sent", x.ofRun(b, 10), n);
                DUE.is("sent the other way", x.ofRun(b, 11), 2 * n);
                DUE.is("read", x.ofRun(b, 0), n - 1);
                DUE.is("read the other way", x.ofRun(b, 1), 2 * n - 2);
            }
        }
        Due.program(x, 3, "s0=i0+1;?t=4:r7=1/0;s1=9");
        x.run(0, 6);
        DUE.is("the one ahead reads it in the next tick", x.ofRun(2, 31), 5);
        DUE.is("the one behind reads it in the next tick, too", x.ofRun(4, 31), 5);
        DUE.is("the others have not seen it", x.ofRun(1, 31) + x.ofRun(5, 31), -2);
    }

    private static void firstFault() {
        DUE.says("FIRST FAULT: the TICK, BOX, LINE and number at which a FAULT came that was not caught.");
        for (int b = 0; b < 6; b++) {
            for (int fault = 1; fault <= 3; fault++) {
                NarrowBox x = new NarrowBox();
                for (int other = 0; other < 6; other++) {
                    x.box(0);
                    Due.program(x, other, "r0=1/0;kr1=1;" + (other > b ? "?t=5:r0=1/0" : "?t=6:r0=1/0"));
                }
                x.flight();
                Due.program(x, b, "r0=1/0;kr1=1" + ";r2=1".repeat(9) + ";?t=5:" + DEADLY[fault]);
                DUE.is("none yet", x.run(0, 5), 0);
                for (int what = 0; what < 4; what++) DUE.is("none", x.firstFault(what), NOT);
                x.run(0, 9);
                int[] want = {5, b, 11, fault};
                for (int what = 0; what < 4; what++) DUE.is("first fault " + what, x.firstFault(what), want[what]);
            }
        }
    }

    private static void ofRun() {
        DUE.says("Of the latest run(): SLOT 0 .. 7 (what 0 .. 7), PORT 0 .. 3 (10 .. 13: the number; VOID: a FAULT), 20 .. 23: the FAULT there (0 without), 30: DEAD (1, 0), 31 the TICK of its first FAULT that was not caught (-1), 32 how many were caught.");
        NarrowBox x = new NarrowBox();
        for (int b = 0; b < 6; b++) {
            x.box(0);
            StringBuilder text = new StringBuilder("r0=" + b);
            for (int slot = 1; slot < 8; slot++) text.append(";r" + slot + "=" + (10 * b + slot));
            for (int port = 0; port < 4; port++) text.append(";s" + port + "=" + (50 + 10 * b + port));
            Due.program(x, b, text.toString());
        }
        x.flight();
        x.run(0, 1);
        for (int b = 0; b < 6; b++) {
            for (int slot = 0; slot < 8; slot++) DUE.is("slot", x.ofRun(b, slot), slot == 0 ? b : 10 * b + slot);
            for (int port = 0; port < 4; port++) {
                DUE.is("port", x.ofRun(b, 10 + port), 50 + 10 * b + port);
                DUE.is("no fault", x.ofRun(b, 20 + port), 0);
            }
            DUE.is("not dead", x.ofRun(b, 30), 0);
            DUE.is("no tick", x.ofRun(b, 31), -1);
            DUE.is("none caught", x.ofRun(b, 32), 0);
            for (int what : new int[] {-1, 8, 9, 14, 19, 24, 29, 33}) DUE.is("no such", x.ofRun(b, what), VOID);
        }
        DUE.is("no such box", x.ofRun(6, 0), VOID);
        gives("r0=1/0;kr1=1/0;kr2=1/0;k?0:r3=1;r0=1/0;kr5=1", 5, 32, 20);
    }

    private static void ofRunNone() {
        DUE.says("VOID: BAD, none.");
        NarrowBox x = new NarrowBox();
        x.box(0);
        x.flight();
        for (int what : new int[] {0, 7, 10, 13, 20, 23, 30, 31, 32}) DUE.is("no run yet", x.ofRun(0, what), VOID);
        DUE.is("a refused run", x.run(0, 0), BAD);
        DUE.is("is none", x.ofRun(0, 30), VOID);
        DUE.is("none is first", x.firstFault(0), BAD);
        x.run(0, 1);
        DUE.is("now there is one", x.ofRun(0, 30), 0);
        DUE.is("that is told", x.firstFault(0), NOT);
    }

    private static void runWithoutBoxes() {
        DUE.says("FIRST FAULT of the latest run(): the TICK (what 0), BOX (1), LINE (2), number (3). NOT: none. BAD (also before any).");
        NarrowBox x = new NarrowBox();
        x.flight();
        DUE.is("before any", x.firstFault(0), BAD);
        DUE.is("none is dead", x.run(0, 200), 0);
        for (int what = 0; what < 4; what++) DUE.is("a run without a fault", x.firstFault(what), NOT);
        for (int what : new int[] {-1, 4}) DUE.is("no such", x.firstFault(what), BAD);
        DUE.is("of no box", x.ofRun(0, 30), VOID);
    }
}
