/** Promises 1 to 8: the new object, and boxes. */
public final class BoxesTest {
    private static final Due DUE = new Due();
    private static final int BAD = NarrowBox.BAD, FULL = NarrowBox.FULL, VOID = NarrowBox.VOID;

    public static void main(String[] args) {
        newObject();
        feed();
        box();
        programLines();
        programFaults();
        programStays();
        bits();
        wire();
        line();
        watch();
        expressions();
        targets();
        catching();
        ticking();
        DUE.end();
    }

    private static void newObject() {
        NarrowBox x = new NarrowBox();
        for (int what = 0; what <= 4; what++) DUE.is("new: count " + what, x.count(what), 0);
        DUE.is("new: run", x.run(0, 1), BAD);
        DUE.is("new: ofRun", x.ofRun(0, 0), VOID);
        DUE.is("new: began", x.began(0), VOID);
        DUE.is("new: trace", x.trace(0), BAD);
        DUE.is("new: taken", x.taken(5, 0), -11);
        DUE.is("new: like", x.like(1, -1), 0);
        DUE.is("new: blind", x.blind(1), 0);
        DUE.is("new: fewest", x.fewest(0, 1, 0), 0);
    }

    private static void feed() {
        NarrowBox x = new NarrowBox();
        x.box(0);
        DUE.is("feed 0", x.feed(0, 1), BAD);
        DUE.is("feed 5", x.feed(5, 1), BAD);
        DUE.is("feed -1", x.feed(-1, 1), BAD);
        DUE.is("feed lowest first", x.feed(2, 'r' | '7' << 8 | '9' << 16), 2);
        DUE.is("feed the rest", x.feed(2, '=' | '1' << 8), 4);
        DUE.is("fed text", x.program(0), 1);
        DUE.is("its target", x.line(0, 0, 3), 7);
        for (int i = 1; i <= 39; i++) DUE.is("feed " + i, x.feed(4, 0x31313131), 4 * i);
        DUE.is("feed to 159", x.feed(3, 0x313131), 159);
        DUE.is("full by two", x.feed(2, 0x3131), FULL);
        DUE.is("bad comes ahead of full", x.feed(9, 1), BAD);
        DUE.is("full changed nothing", x.count(3), 159);
        DUE.is("the last one", x.feed(1, '1'), 160);
        DUE.is("full", x.feed(1, '1'), FULL);
        DUE.is("a text of 160", x.program(0), -100);
        DUE.is("empty then", x.count(3), 0);
    }

    private static void box() {
        NarrowBox x = new NarrowBox();
        DUE.is("kind -1", x.box(-1), BAD);
        DUE.is("kind 7", x.box(7), BAD);
        for (int b = 0; b < 6; b++) DUE.is("box " + b, x.box(6 - b), b);
        DUE.is("box full", x.box(0), FULL);
        DUE.is("box bad and full", x.box(7), BAD);
        DUE.is("boxes", x.count(0), 6);
        DUE.is("without a program", x.line(5, 0, 0), BAD);
        x.flight();
        DUE.is("without programs all live", x.run(0, 200), 0);
    }

    private static void programLines() {
        NarrowBox x = new NarrowBox();
        x.box(0);
        String[] texts = {"r0=1", "s3=e", "kr7=t", "?1:r0=1", "!s0=1", "k?r0<1:!s3=-(i3)",
            "r0=1|2&3<4+5*6", "r0=((((((1))))))", "r0=------1", "r0=-(-(-(1)))", "r0=-1--1", "r0=00000", "r0=99999",
            "r0=(((1)))-(((2)))*------3", "?1<2&3=4|5>6:r0=1%f2/i0", "r0=(1<2)<3", "r0=1<2&2<3", "r0=1=1|e",
            "?((((((1)))))):r0=1", "k?------t:!r0=------t"};
        for (String s : texts) DUE.is(s, Due.program(x, 0, s), 1);
        DUE.is("two", Due.program(x, 0, "r0=1;r0=2"), 2);
        DUE.is("twelve", Due.program(x, 0, "r0=1" + ";r0=1".repeat(11)), 12);
        String longest = "r0=1" + "+1".repeat(78);
        DUE.is("160 bytes", Due.program(x, 0, longest), 1);
        x.flight();
        x.run(0, 1);
        DUE.is("all 160 were read", x.ofRun(0, 0), 79);
    }

    private static void programFaults() {
        NarrowBox x = new NarrowBox();
        x.box(0);
        Object[][] texts = {{"", 0}, {"k", 1}, {"?", 1}, {"!", 1}, {"r", 1}, {"r0=", 3}, {"x", 0}, {"kk", 1},
            {"!k", 1}, {"!?1:r0=1", 1}, {"?:r0=1", 1}, {"?1r0=1", 2}, {"?1:k", 3}, {"?1", 2}, {"?1:", 3},
            {"?(1:r0=1", 3}, {"?1):r0=1", 2}, {"r8=1", 1}, {"r0:1", 2}, {"s4=1", 1}, {"t=1", 0}, {"r0= 1", 3},
            {"r0=1 ", 4}, {"r0=1:", 4}, {"r0=1)", 4}, {"r0=(1", 5}, {"r0=()", 4}, {"r0=1+", 5}, {"r0=1+*2", 5},
            {"r0=1++2", 5}, {"r0=+1", 3}, {"r0=r", 4}, {"r0=r8", 4}, {"r0=i4", 4}, {"r0=f3", 4}, {"r0=s0", 3},
            {"r0=k", 3}, {"r0=t0", 4}, {"r0=e1", 4}, {"r0=r00", 5}, {"r0=123456", 8}, {"r0=1r0", 4},
            {"r0=1<2<3", 6}, {"r0=1=2>3", 6}, {"r0=1&2<3=4", 8}, {"r0=1||2", 5}, {"r0=-------1", 9},
            {"r0=(((((((1", 9}, {"?(((((((1", 7}, {"r0=-(-(-((1", 9}, {"r0=------", 9}, {"r0=1;", 5}, {"r0=1;;", 5}, {"r0=1;x", 5},
            {";", 0}, {"r0=1==1", 5}, {"R0=1", 0}, {"r0=1;k?1", 8}, {"r0=1" + ";r0=1".repeat(12), 60},
            {"r0=1" + ";r0=1".repeat(11) + ";", 60}, {"r0=1" + ";r0=1".repeat(11) + ";;", 60}, {"r0=\u00e9", 3},
            {"r0=1" + (char) 0, 4}};
        for (Object[] t : texts) {
            DUE.is("fault of " + t[0], Due.program(x, 0, (String) t[0]), -100 - (Integer) t[1]);
        }
    }

    private static void programStays() {
        NarrowBox x = new NarrowBox();
        x.box(0);
        Due.program(x, 0, "r0=1;r0=2");
        Due.feed(x, "s0=1");
        DUE.is("no such box", x.program(1), BAD);
        DUE.is("no such box below", x.program(-1), BAD);
        DUE.is("the tape stays", x.count(3), 4);
        x.feed(1, '!');
        DUE.is("a text with a fault", x.program(0), -104);
        DUE.is("the tape is empty", x.count(3), 0);
        DUE.is("the program stays as it was", x.line(0, 1, 3), 0);
        DUE.is("a new program", Due.program(x, 0, "s1=1"), 1);
        DUE.is("the old one is gone", x.line(0, 1, 3), BAD);
        DUE.is("the new one is there", x.line(0, 0, 3), 11);
        x.box(0);
        DUE.is("another box has none", x.line(1, 0, 3), BAD);
        Due.program(x, 1, "r3=1");
        DUE.is("each its own", x.line(0, 0, 3), 11);
    }

    private static void bits() {
        NarrowBox x = new NarrowBox();
        x.box(0);
        DUE.is("bits at first", x.bits(0, 7, 2), 16);
        DUE.is("bits were", x.bits(0, 7, 20), 2);
        DUE.is("bits were 20", x.bits(0, 7, 16), 20);
        int[][] bad = {{1, 0, 16}, {-1, 0, 16}, {0, 8, 16}, {0, -1, 16}, {0, 0, 1}, {0, 0, 21}};
        for (int[] b : bad) DUE.is("bits bad", x.bits(b[0], b[1], b[2]), BAD);
        DUE.is("bits bad changed nothing", x.bits(0, 0, 16), 16);
        x.flight();
        int[][] ends = {{2, 1}, {3, 3}, {16, 32767}, {17, 65535}, {20, 524287}};
        for (int[] e : ends) {
            x.bits(0, 0, e[0]);
            Due.program(x, 0, "r0=" + (e[1] > 99999 ? "99999*5+24292" : e[1]));
            DUE.is("greatest of bits " + e[0], x.run(0, 1), 0);
            DUE.is("greatest is held", x.ofRun(0, 0), e[1]);
            Due.program(x, 0, "r0=1+" + (e[1] > 99999 ? "99999*5+24292" : e[1]));
            DUE.is("above the greatest of bits " + e[0], x.run(0, 1), 1);
            Due.program(x, 0, "r0=-1-" + (e[1] > 99999 ? "(99999*5+24292)" : e[1]));
            DUE.is("least of bits " + e[0], x.run(0, 1), 0);
            Due.program(x, 0, "r0=-2-" + (e[1] > 99999 ? "(99999*5+24292)" : e[1]));
            DUE.is("below the least of bits " + e[0], x.run(0, 1), 1);
        }
    }

    private static void wire() {
        NarrowBox x = new NarrowBox();
        x.box(0);
        x.box(0);
        DUE.is("wire at first", x.wire(0, 3, 1, 2), -1);
        DUE.is("wire was", x.wire(0, 3, 0, 3), 12);
        DUE.is("wire to none, port unlooked at", x.wire(0, 3, -1, 77), 3);
        DUE.is("wire was none", x.wire(0, 3, 0, 0), -1);
        DUE.is("wire was 0", x.wire(0, 3, 0, 0), 0);
        int[][] bad = {{2, 0, 0, 0}, {-1, 0, 0, 0}, {0, 4, 0, 0}, {0, -1, 0, 0}, {0, 0, 2, 0}, {0, 0, -2, 0},
            {0, 0, 0, 4}, {0, 0, 0, -1}};
        for (int[] b : bad) DUE.is("wire bad", x.wire(b[0], b[1], b[2], b[3]), VOID);
        DUE.is("wire bad changed nothing", x.wire(0, 0, -1, 0), -1);
    }

    private static void line() {
        NarrowBox x = new NarrowBox();
        x.box(0);
        Due.program(x, 0, "k?1:!s3=1;r7=1");
        int[][] want = {{1, 1, 1, 13}, {0, 0, 0, 7}};
        for (int l = 0; l < 2; l++) {
            for (int w = 0; w < 4; w++) DUE.is("line " + l + " " + w, x.line(0, l, w), want[l][w]);
        }
        int[][] bad = {{1, 0, 0}, {-1, 0, 0}, {0, 2, 0}, {0, -1, 0}, {0, 0, 4}, {0, 0, -1}};
        for (int[] b : bad) DUE.is("line bad", x.line(b[0], b[1], b[2]), BAD);
    }

    private static void watch() {
        NarrowBox x = new NarrowBox();
        x.box(0);
        x.flight();
        Due.program(x, 0, "r0=99999;!r1=1");
        DUE.is("watch was not", x.watch(0, 0, 1), 0);
        DUE.is("watch was", x.watch(0, 0, 1), 1);
        DUE.is("line says so", x.line(0, 0, 2), 1);
        DUE.is("watched", x.run(0, 1), 0);
        DUE.is("held", x.ofRun(0, 0), 32767);
        DUE.is("watch of its own ends", x.watch(0, 1, 0), 1);
        DUE.is("line says not", x.line(0, 1, 2), 0);
        x.watch(0, 0, 0);
        DUE.is("not watched", x.run(0, 1), 1);
        int[][] bad = {{1, 0, 0}, {-1, 0, 0}, {0, 2, 0}, {0, -1, 0}, {0, 0, 2}, {0, 0, -1}};
        for (int[] b : bad) DUE.is("watch bad", x.watch(b[0], b[1], b[2]), BAD);
    }

    /** What a program's E gives: the value it puts in r0 of 20 bits, or less than -1000000 the fault. */
    private static int value(String e) {
        NarrowBox x = new NarrowBox();
        x.box(0);
        x.flight();
        x.felt(0, 5, 1, 99999);
        x.felt(1, -7, 0, 99999);
        x.bits(0, 0, 20);
        int lines = Due.program(x, 0, "r3=9;r0=" + e);
        if (lines != 2) return -3000000 + lines;
        x.run(0, 3);
        return x.ofRun(0, 30) == 1 ? -2000000 - x.firstFault(3) : x.ofRun(0, 0);
    }

    private static void expressions() {
        Object[][] due = {{"2+3*4", 14}, {"(2+3)*4", 20}, {"2-3-4", -5}, {"100/10/5", 2}, {"17%10%4", 3}, {"7/2", 3},
            {"-7/2", -3}, {"7/-2", -3}, {"-7%4", -3}, {"7%-4", 3}, {"--5", 5}, {"-2*-3", 6}, {"1<2", 1}, {"2<1", 0},
            {"2=2", 1}, {"2>1", 1}, {"1>1", 0}, {"5|0", 1}, {"0|0", 0}, {"5&-3", 1}, {"5&0", 0}, {"1|0&0", 1},
            {"(1|0)&0", 0}, {"1+1=2&3>2", 1}, {"2*3<7|0", 1}, {"f0", 7}, {"f1", -7}, {"f2", 0}, {"t", 2}, {"e", 0},
            {"r3", 9}, {"i0", 0}, {"00012", 12}, {"31622*31622/31622", 31622}, {"99999*10000/99999", 10000},
            {"99999*10001/99999", -2000002}, {"-99999*10001", -2000002}, {"1/0", -2000003}, {"1%0", -2000003},
            {"0&1/0", -2000003}, {"1|1/0", -2000003}, {"1/0+99999*99999", -2000003},
            {"99999*99999+1/0", -2000002}, {"99999*99999*0", -2000002}, {"(99999*10000+10000)/10000", 100000},
            {"(99999*10000+10001)/10000", -2000002}, {"-(99999*10000+10000)/10000", -100000},
            {"-(99999*10000+10000)-1", -2000002}, {"(-99999*10000-10000)/10000", -100000}, {"(1<2)<3", 1}, {"3-(2-1)", 2}, {"1/(f0-7)", -2000003}};
        for (Object[] d : due) DUE.is((String) d[0], value((String) d[0]), (Integer) d[1]);
    }

    private static int[] ran(int kind, String text, int n, int... whats) {
        NarrowBox x = new NarrowBox();
        x.box(kind);
        x.flight();
        x.wire(0, 0, 0, 0);
        Due.program(x, 0, text);
        x.run(0, n);
        int[] got = new int[whats.length];
        for (int i = 0; i < whats.length; i++) got[i] = x.ofRun(0, whats[i]);
        return got;
    }

    private static void ranIs(int kind, String text, int n, int[] whats, int... want) {
        int[] got = ran(kind, text, n, whats);
        for (int i = 0; i < whats.length; i++) DUE.is(text + " of " + whats[i], got[i], want[i]);
    }

    private static void targets() {
        ranIs(0, "!s0=32768;!s1=-32769;!s2=32767;s3=-32768", 1, new int[] {10, 11, 12, 13, 30},
            32767, -32768, 32767, -32768, 0);
        ranIs(0, "s0=5;s1=6;s2=32768", 1, new int[] {10, 20, 21, 22, 23, 30}, VOID, 1, 1, 1, 1, 1);
        ranIs(0, "r0=5;r1=32768;r2=7", 1, new int[] {0, 1, 2, 30, 31, 32}, 5, 0, 0, 1, 0, 0);
        // A watch holds what does not fit; it does not hold what goes beyond in a part.
        ranIs(0, "!r0=99999*99999", 1, new int[] {0, 30, 20}, 0, 1, 2);
        ranIs(0, "?0:r0=1/0;?2:r1=4;?0-1:r2=5", 1, new int[] {0, 1, 2, 30}, 0, 4, 5, 0);
        ranIs(0, "?1/0:r0=1", 1, new int[] {0, 30, 20}, 0, 1, 3);
    }

    private static void catching() {
        ranIs(0, "r0=1/0;r1=1;kr2=e;r3=3", 2, new int[] {0, 1, 2, 3, 30, 32}, 0, 0, 3, 3, 0, 2);
        ranIs(0, "r0=1;kr1=1;r2=2", 1, new int[] {0, 1, 2, 32}, 1, 0, 2, 0);
        ranIs(0, "r0=99999;k?e=2:r1=1;r2=e+9", 1, new int[] {1, 2, 30, 32}, 0, 9, 0, 1);
        ranIs(0, "r0=99999;k?e=1:r1=e;r2=e", 1, new int[] {1, 2, 30, 32}, 1, 0, 0, 1);
        ranIs(0, "r0=99999;kr1=1/0;r2=2;kr3=e", 1, new int[] {1, 2, 3, 30, 32}, 0, 0, 3, 0, 2);
        ranIs(0, "r0=99999;k?1/0:r1=1;r2=2", 1, new int[] {2, 30, 20, 32}, 0, 1, 3, 1);
        ranIs(0, "r0=99999;kr1=e;r2=1/0;s0=1", 1, new int[] {1, 30, 20, 32}, 1, 1, 3, 1);
        ranIs(0, "kr1=e;r0=99999", 1, new int[] {1, 30, 20, 32}, 0, 1, 1, 0);
        ranIs(0, "r0=99999;kr1=e;kr2=e", 1, new int[] {1, 2, 32}, 1, 0, 1);
        ranIs(0, "s0=7;r0=99999*99999;ks1=e", 1, new int[] {10, 11, 20, 30}, 7, 2, 0, 0);
    }

    private static void ticking() {
        ranIs(0, "s0=t+1;r0=i0", 5, new int[] {0, 10}, 4, 5);
        ranIs(0, "r0=r0+1;r1=r0*10", 5, new int[] {0, 1}, 5, 50);
        ranIs(0, "r0=r0+10000", 9, new int[] {0, 30, 31, 20}, 30000, 1, 3, 1);
        NarrowBox x = new NarrowBox();
        for (int kind : new int[] {0, 2, 3, 0}) x.box(kind);
        x.flight();
        Due.program(x, 0, "s0=t;r0=5/(3-t)");
        for (int b = 1; b <= 2; b++) {
            x.wire(b, 0, 0, 0);
            Due.program(x, b, "r0=i0;r1=r1*10+i0");
        }
        x.wire(3, 1, 2, 3);
        Due.program(x, 3, "r0=i1;kr1=e");
        DUE.is("dead ones", x.run(0, 5), 2);
        DUE.is("the divided one", x.ofRun(0, 31), 3);
        DUE.is("its fault", x.ofRun(0, 21), 3);
        DUE.is("steering takes it for a number", x.ofRun(1, 0), 9003);
        DUE.is("steering lives", x.ofRun(1, 30), 0);
        DUE.is("steering read what was sent", x.ofRun(1, 1), 9123);
        DUE.is("feeling is dead a tick later", x.ofRun(2, 31), 4);
        DUE.is("by fault 4", x.ofRun(2, 23), 4);
        DUE.is("feeling kept its slots", x.ofRun(2, 0), 2);
        DUE.is("not seen yet", x.ofRun(3, 32), 0);
        x.run(0, 6);
        DUE.is("seen and caught", x.ofRun(3, 32), 1);
        DUE.is("as fault 4", x.ofRun(3, 1), 4);
    }
}
