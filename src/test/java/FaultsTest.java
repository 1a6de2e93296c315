/** Promises 22 to 27: faults, twins, watches. */
public final class FaultsTest {
    private static final Due DUE = new Due();
    private static final int BAD = NarrowBox.BAD, NOT = NarrowBox.NOT, STATE = NarrowBox.STATE;

    public static void main(String[] args) {
        far();
        farOfTheDead();
        farBad();
        twin();
        worth();
        needed();
        neededNot();
        best();
        bestOfMany();
        bestBad();
        fewest();
        DUE.end();
    }

    /** A chain: box 0 sends t, each other one reads the one ahead of it and sends that on. */
    private static NarrowBox chain(int boxes) {
        NarrowBox x = new NarrowBox();
        x.flight();
        for (int b = 0; b < boxes; b++) {
            x.box(0);
            Due.program(x, b, b == 0 ? "s0=t" : "s0=i0;r0=i0");
            if (b > 0) x.wire(b, 0, b - 1, 0);
        }
        return x;
    }

    private static void far() {
        NarrowBox x = chain(4);
        DUE.is("itself alone in the last tick", x.far(0, 0, 10, 1009), 0b1);
        DUE.is("one more a tick", x.far(0, 0, 10, 1008), 0b11);
        DUE.is("two more", x.far(0, 0, 10, 1007), 0b111);
        DUE.is("all", x.far(0, 0, 10, 1000), 0b1111);
        DUE.is("from the middle", x.far(2, 0, 10, 9000), 0b1100);
        DUE.is("one tick", x.far(1, 0, 1, 1000), 0b10);
        Due.program(x, 1, "s0=7;r0=i0;kr0=0");
        x.bits(1, 1, 5);
        DUE.is("what is sent stays the same", x.far(0, 0, 10, 1000), 0b11);
        Due.program(x, 1, "s0=7;r0=i0*0;kr0=0");
        DUE.is("caught and like", x.far(0, 0, 10, 1000), 0b1);
        NarrowBox y = new NarrowBox();
        y.flight();
        y.box(0);
        y.box(2);
        y.wire(1, 0, 0, 2);
        Due.program(y, 1, "r0=i0");
        DUE.is("without a program it can have one, too", y.far(0, 0, 3, 5001), 0b11);
    }

    private static void farOfTheDead() {
        NarrowBox x = new NarrowBox();
        x.flight();
        x.box(0);
        x.box(2);
        x.wire(1, 0, 0, 0);
        Due.program(x, 0, "r0=t;r1=1/(t-3)");
        Due.program(x, 1, "r0=i0;r1=r1+i0%9000");
        DUE.is("dead of the same from the same tick on", x.far(0, 0, 8, 3003), 0b01);
        Due.program(x, 0, "r1=1/(t-3);r0=t");
        DUE.is("like, as its slots are 1 / -1 both", x.far(0, 0, 8, 3003), 0);
        DUE.is("dead ahead, of another one then", x.far(0, 0, 8, 5006), 0b11);
        DUE.is("seen from the next tick on", x.far(0, 0, 8, 5007), 0b01);
        DUE.is("dead ahead, of the same", x.far(0, 0, 8, 3006), 0);
    }

    private static void farBad() {
        NarrowBox x = chain(1);
        int[][] bad = {{1, 0, 5, 1000}, {-1, 0, 5, 1000}, {0, 1, 5, 1000}, {0, -1, 5, 1000}, {0, 0, 0, 1000},
            {0, 0, 201, 1000}, {0, 0, 5, 999}, {0, 0, 5, 0}, {0, 0, 5, -1000}, {0, 0, 5, 10000},
            {0, 0, 5, 10007}, {1, 0, 5, 1007}, {0, 0, 5, 1200}, {0, 0, 200, 1200}, {0, 0, 200, 9200}, {0, 0, 1, 1999},
            {0, 0, 5, 9999}};
        for (int[] b : bad) DUE.is("far bad " + b[3], x.far(b[0], b[1], b[2], b[3]), BAD);
        DUE.is("the last tick", x.far(0, 0, 200, 1199), 1);
        DUE.is("fault 9", x.far(0, 0, 5, 9004), 1);
        int[][] unreached = {{1, 1001}, {1, 1023}, {1, 1199}, {5, 1005}, {5, 9199}, {199, 1199}};
        for (int[] u : unreached) DUE.is("a tick that is not reached " + u[1], x.far(0, 0, u[0], u[1]), 0);
    }

    private static void twin() {
        NarrowBox x = new NarrowBox();
        x.box(0);
        x.box(1);
        x.box(1);
        DUE.is("twin", x.twin(1, 0), 1);
        DUE.is("twin of a twin", x.twin(1, 2), 1);
        int[][] bad = {{0, 1}, {1, 1}, {1, 3}, {1, -1}, {3, 0}, {-1, 0}};
        for (int[] b : bad) DUE.is("twin bad", x.twin(b[0], b[1]), BAD);
    }

    private static void worth() {
        NarrowBox x = new NarrowBox();
        x.box(0);
        x.box(1);
        x.box(1);
        for (int f = 0; f < 4; f++) {
            x.flight();
            x.felt(10 * f, 10000 * f, 900, 99999);
        }
        Due.program(x, 0, "r0=f0");
        Due.program(x, 1, "r0=f0/2");
        DUE.is("of none", x.worth(1, 15, 3), STATE);
        DUE.is("bad comes first", x.worth(1, 16, 3), BAD);
        x.twin(1, 0);
        DUE.is("four ticks", x.worth(1, 15, 4), 0);
        DUE.is("one flight", x.worth(1, 15, 5), 1);
        DUE.is("two flights", x.worth(1, 15, 20), 2);
        DUE.is("told ones", x.worth(1, 0b0111, 20), 1);
        DUE.is("no flights", x.worth(1, 0, 20), 0);
        DUE.is("both are dead", x.worth(1, 15, 200), 0);
        x.twin(1, 2);
        DUE.is("of another one", x.worth(1, 15, 20), 0);
        int[][] bad = {{0, 1, 1}, {3, 1, 1}, {-1, 1, 1}, {1, 16, 1}, {1, -1, 1}, {1, 1, 0}, {1, 1, 201}};
        for (int[] b : bad) DUE.is("worth bad", x.worth(b[0], b[1], b[2]), BAD);
    }

    private static void needed() {
        NarrowBox x = chain(3);
        DUE.is("the first of three", x.needed(0, 0, 10), 8);
        DUE.is("the second", x.needed(1, 0, 10), 8);
        DUE.is("the last", x.needed(2, 0, 10), NOT);
        DUE.is("one tick", x.needed(0, 0, 1), NOT);
        DUE.is("two ticks are too few: 0 was sent first", x.needed(0, 0, 2), NOT);
        DUE.is("three", x.needed(0, 0, 3), 1);
        Due.program(x, 0, "?t<5:s0=t");
        DUE.is("nothing new behind tick 4", x.needed(0, 0, 20), 4);
        Due.program(x, 1, "?t<3:r0=i0");
        DUE.is("read till tick 2", x.needed(0, 0, 20), 1);
        Due.program(x, 0, "s0=7");
        DUE.is("at once, or never", x.needed(0, 0, 20), 0);
        Due.program(x, 0, "s0=1/(6-t)");
        Due.program(x, 1, "r0=i0;kr1=e");
        DUE.is("stopped it does not die", x.needed(0, 0, 8), 6);
        DUE.is("stopped behind its death all is like", x.needed(0, 0, 20), 6);
        int[][] bad = {{3, 0, 1}, {-1, 0, 1}, {0, 1, 1}, {0, -1, 1}, {0, 0, 0}, {0, 0, 201}};
        for (int[] b : bad) DUE.is("needed bad", x.needed(b[0], b[1], b[2]), BAD);
    }

    private static void neededNot() {
        NarrowBox x = new NarrowBox();
        x.flight();
        x.box(0);
        x.box(0);
        x.wire(0, 0, 0, 0);
        Due.program(x, 0, "s0=i0+1");
        Due.program(x, 1, "r0=i0");
        DUE.is("it reads itself, others do not", x.needed(0, 0, 9), NOT);
        x.wire(1, 0, 0, 1);
        DUE.is("read, but another port", x.needed(0, 0, 9), NOT);
        x.wire(1, 0, 0, 0);
        DUE.is("read", x.needed(0, 0, 9), 7);
    }

    private static void best() {
        NarrowBox x = new NarrowBox();
        x.box(0);
        for (int f = 0; f < 3; f++) {
            x.flight();
            x.felt(10 * f, 20000 * f, 0, 99999);
            x.felt(10 * f + 1, f == 1 ? 99999 : 0, 0, 99999);
        }
        DUE.is("without a program", x.best(0, 7, 1001, 0), 0);
        Due.program(x, 0, "r0=f0;r1=f1;r2=f0+f1");
        DUE.is("flight 0 needs none", x.best(0, 1, 9005, 0), 0);
        DUE.is("none as bits", x.best(0, 1, 9005, 1), 0);
        DUE.is("flight 1 needs two", x.best(0, 2, 9005, 0), 18);
        DUE.is("these", x.best(0, 2, 9005, 1), 0b110);
        DUE.is("flight 2 needs two", x.best(0, 4, 3005, 1), 0b101);
        DUE.is("together three", x.best(0, 7, 3005, 0), 9);
        x.watch(0, 1, 1);
        DUE.is("its own costs nothing", x.best(0, 2, 9005, 0), 9);
        DUE.is("the other one", x.best(0, 2, 9005, 1), 0b100);
        DUE.is("watches are as before", x.line(0, 0, 2) + 10 * x.line(0, 1, 2) + 100 * x.line(0, 2, 2), 10);
        Due.program(x, 0, "r0=99999*99999");
        DUE.is("no watch helps", x.best(0, 1, 1001, 0), NOT);
        DUE.is("no lines", x.best(0, 1, 1001, 1), NOT);
        DUE.is("no flights", x.best(0, 0, 1001, 1), 0);
    }

    private static void bestOfMany() {
        NarrowBox x = new NarrowBox();
        x.box(0);
        x.flight();
        Due.program(x, 0, "r0=40000;kr1=1;r2=40000;kr3=1");
        DUE.is("caught needs none", x.best(0, 1, 1001, 0), 0);
        // Either line's watch saves it: held at 32767, or left out behind the fault.
        Due.program(x, 0, "r0=40000;r1=1/(r0-32767);kr0=0;r1=1/(r0-0*t-32767)");
        DUE.is("the least one of like ones", x.best(0, 1, 1001, 1), 0);
        Due.program(x, 0, "r1=40000;r2=1;kr2=2;r3=10000/(r1-32767)/(r2-2)");
        DUE.is("a watch may kill", x.best(0, 1, 1001, 0), NOT);
        Due.program(x, 0, "r0=1;r0=1;r0=1;r0=1;r0=1;r0=1;r0=1;r0=1;r0=40000");
        DUE.is("the ninth line is not looked at", x.best(0, 1, 1001, 0), NOT);
        x.watch(0, 8, 1);
        DUE.is("it keeps its own", x.best(0, 1, 1001, 0), 0);
        Due.program(x, 0, "r0=t*9000;r1=t*7000;r2=t*5000;r3=t*3000;r4=t*2000;r5=t*1000;s0=t*900;s1=t*800");
        DUE.is("four ticks", x.best(0, 1, 2004, 1), 0);
        DUE.is("five", x.best(0, 1, 2005, 1), 0b1);
        DUE.is("fifty", x.best(0, 1, 2050, 1), 0b11111111);
        DUE.is("their time", x.best(0, 1, 2050, 0), 16);
        x.box(0);
        Due.program(x, 1, "r0=1/0");
        DUE.is("others may die", x.best(0, 1, 2004, 1), 0);
    }

    private static void bestBad() {
        NarrowBox x = chain(1);
        int[][] bad = {{1, 1, 1001, 0}, {-1, 1, 1001, 0}, {0, 2, 1001, 0}, {0, -1, 1001, 0}, {0, 1, 1000, 0},
            {0, 1, 1201, 0}, {0, 1, 999, 0}, {0, 1, 10001, 0}, {0, 1, -1001, 0}, {0, 1, 1001, 2}, {0, 1, 1001, -1}};
        for (int[] b : bad) DUE.is("best bad " + b[2], x.best(b[0], b[1], b[2], b[3]), BAD);
        DUE.is("longest and dearest", x.best(0, 1, 9200, 0), 0);
    }

    private static void fewest() {
        NarrowBox x = new NarrowBox();
        for (int b = 0; b < 4; b++) {
            x.box(0);
            Due.program(x, b, "r0=1/(1-f0/" + new int[] {1, 10, 100, 1000}[b] + "%10)");
        }
        int[] felt = {1, 10, 11, 110, 1000, 0};
        for (int f = 0; f < felt.length; f++) {
            x.flight();
            x.felt(10 * f, felt[f], 0, 99999);
        }
        DUE.is("none told", x.fewest(0, 5, 0), 0);
        DUE.is("one that kills none", x.fewest(0b100000, 5, 0), 0);
        DUE.is("not even as bits", x.fewest(0b100000, 5, 1), 0);
        DUE.is("one of three does", x.fewest(0b000111, 5, 1), 0b100);
        DUE.is("two of four", x.fewest(0b001111, 5, 0), 2);
        DUE.is("the first two", x.fewest(0b001111, 5, 1), 0b1001);
        DUE.is("three of all", x.fewest(0b111111, 5, 0), 3);
        DUE.is("these", x.fewest(0b111111, 5, 1), 0b11001);
        DUE.is("told ones alone", x.fewest(0b010011, 5, 1), 0b10011);
        int[][] bad = {{64, 1, 0}, {-1, 1, 0}, {1, 0, 0}, {1, 201, 0}, {1, 1, 2}, {1, 1, -1}};
        for (int[] b : bad) DUE.is("fewest bad", x.fewest(b[0], b[1], b[2]), BAD);
    }
}
