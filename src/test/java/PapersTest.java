/** Promises 28 to 32: papers. */
public final class PapersTest {
    private static final Due DUE = new Due();
    private static final int BAD = NarrowBox.BAD, FULL = NarrowBox.FULL, STATE = NarrowBox.STATE;

    public static void main(String[] args) {
        paper();
        paperFull();
        holdsBySpans();
        holdsByTrial();
        holdsOnOthers();
        sign();
        saw();
        blind();
        DUE.end();
    }

    private static NarrowBox desk() {
        NarrowBox x = new NarrowBox();
        x.box(0);
        x.box(0);
        x.flight();
        x.flight();
        Due.program(x, 0, "r0=f0*10");
        Due.program(x, 1, "r0=i0");
        x.span(0, -5, 8);
        x.span(10, -4000, 8);
        return x;
    }

    private static void paper() {
        NarrowBox x = desk();
        int[][] bad = {{2, 0, 0, 9999}, {-1, 0, 0, 9999}, {0, 3, 0, 9999}, {0, 9, 0, 9999}, {0, -1, 0, 9999},
            {0, 12, 0, 9999}, {0, 0, -1, 9999}, {0, 0, 100000, 9999}, {1, 0, 1, 9999}, {1, 2, 1, 9999},
            {1, 12, 1, 9999}, {1, 10, 0, 9999}, {1, 10, 100, 9999}, {1, 10, 201, 9999}, {1, 10, -1, 9999},
            {0, 0, 0, -1}, {0, 0, 0, 10099}, {0, 0, 0, 0}, {0, 0, 0, 9900}, {0, 0, 0, 99}, {0, 0, 0, 10000}};
        for (int[] b : bad) DUE.is("paper bad", x.paper(b[0], b[1], b[2], b[3]), BAD);
        DUE.is("none came", x.count(2), 0);
        DUE.is("felt", x.paper(0, 2, 99999, 9999), 0);
        DUE.is("on itself", x.paper(0, 2, 99999, 199), BAD);
        DUE.is("box, v does not matter", x.paper(0, 11, -7, 99), 1);
        DUE.is("tried", x.paper(1, 11, 199, 9901), 2);
        DUE.is("on two", x.paper(1, 10, 1, 201), 3);
        DUE.is("on one twice", x.paper(1, 10, 1, 303), 4);
        DUE.is("papers", x.count(2), 5);
    }

    private static void paperFull() {
        NarrowBox x = desk();
        for (int p = 0; p < 20; p++) DUE.is("paper " + p, x.paper(0, 0, p, p == 0 ? 9999 : 9900 + p - 1), p);
        DUE.is("paper full", x.paper(0, 0, 0, 9999), FULL);
        DUE.is("bad comes first", x.paper(0, 5, 0, 9999), BAD);
        DUE.is("holds along all", x.holds(0, 19), 0);
        x.span(0, 0, 0);
        DUE.is("holds along all now", x.holds(0, 19), 1);
        DUE.is("all of them before", x.sign(11, 19, (1 << 20) - 1), 1);
        DUE.is("more than there are", x.sign(10, 19, 1 << 20), BAD);
        DUE.is("the first along all", x.saw(19, 0), 1 << 11);
    }

    private static void holdsBySpans() {
        NarrowBox x = desk();
        x.paper(0, 0, 8, 9999);
        x.paper(0, 0, 7, 9999);
        x.paper(0, 0, 4000, 9999);
        x.paper(0, 10, 0, 9999);
        x.paper(0, 1, 0, 9999);
        x.paper(0, 11, 0, 9999);
        int[] older = {1, 0, 1, 1, 1, 1};
        int[] newer = {0, 0, 1, 0, 1, 1};
        for (int p = 0; p < 6; p++) {
            DUE.is("older, " + p, x.holds(0, p), older[p]);
            DUE.is("newer, " + p, x.holds(1, p), newer[p]);
        }
        x.span(10, -8, 8);
        DUE.is("as spans are now", x.holds(1, 3), 1);
        x.bits(0, 0, 4);
        DUE.is("as bits are now", x.holds(1, 3), 0);
        x.watch(0, 0, 1);
        DUE.is("as watches are now", x.holds(1, 3), 1);
        int[][] bad = {{2, 0}, {-1, 0}, {0, 6}, {0, -1}};
        for (int[] b : bad) DUE.is("holds bad", x.holds(b[0], b[1]), BAD);
    }

    private static void holdsByTrial() {
        NarrowBox x = desk();
        x.felt(10, 3000, 100, 99999);
        x.paper(1, 10, 99, 9999);
        x.paper(1, 10, 103, 9999);
        x.paper(1, 10, 104, 9999);
        int[] want = {1, 1, 0};
        for (int p = 0; p < 3; p++) {
            for (int machine = 0; machine < 2; machine++) DUE.is("tried " + p, x.holds(machine, p), want[p]);
        }
        x.felt(10, 0, 0, 0);
        DUE.is("as flights are now", x.holds(0, 2), 1);
        Due.program(x, 0, "r0=1/0");
        DUE.is("as boxes are now", x.holds(0, 0), 0);
        x.run(0, 1);
        Due.program(x, 0, "r0=5");
        DUE.is("tried now", x.holds(0, 0), 1);
        Due.program(x, 1, "r0=1/(5-f1)");
        for (int f = 2; f < 8; f++) x.flight();
        x.felt(71, 5, 0, 9);
        DUE.is("in the last flight", x.paper(1, 11, 701, 9999), 3);
        DUE.is("it is dead there", x.holds(0, 3), 0);
        x.felt(71, 4, 1, 9);
        DUE.is("not in one tick now", x.holds(0, 3), 1);
        DUE.is("the latest run stays", x.ofRun(0, 30), 1);
    }

    private static void holdsOnOthers() {
        NarrowBox x = desk();
        x.paper(0, 0, 8, 9999);
        x.paper(0, 1, 0, 99);
        x.paper(0, 1, 0, 9901);
        x.paper(0, 1, 0, 9999);
        x.paper(0, 1, 0, 302);
        for (int p = 0; p < 5; p++) {
            DUE.is("older, " + p, x.holds(0, p), 1);
            DUE.is("newer, " + p, x.holds(1, p), p == 3 ? 1 : 0);
        }
    }

    private static void sign() {
        NarrowBox x = desk();
        x.paper(0, 0, 8, 9999);
        x.paper(0, 0, 8, 9999);
        int[][] bad = {{-1, 0, 0}, {12, 0, 0}, {0, 2, 0}, {0, -1, 0}, {0, 0, 4}, {0, 0, -1}};
        for (int[] b : bad) DUE.is("sign bad", x.sign(b[0], b[1], b[2]), BAD);
        for (int person = 0; person < 12; person++) DUE.is("sign", x.sign(person, 1, person % 4), person + 1);
        DUE.is("signed once", x.sign(11, 1, 0), STATE);
        DUE.is("bad comes first", x.sign(11, 1, 4), BAD);
        DUE.is("another paper", x.sign(11, 0, 0), 1);
    }

    private static void saw() {
        NarrowBox x = desk();
        x.paper(0, 0, 8, 9999);
        x.paper(0, 0, 8, 99);
        x.paper(0, 0, 8, 199);
        x.paper(0, 0, 8, 9999);
        x.sign(0, 3, 0b0001);
        x.sign(1, 3, 0b0100);
        x.sign(2, 3, 0b0000);
        x.sign(3, 3, 0b1010);
        x.sign(4, 2, 0b0000);
        DUE.is("the first one, along all of it", x.saw(3, 0), 0b1011);
        DUE.is("the second", x.saw(3, 1), 0b1010);
        DUE.is("the third", x.saw(3, 2), 0b0010);
        DUE.is("itself", x.saw(3, 3), 0b1000);
        DUE.is("what it stands on is not before them", x.saw(2, 1), 0);
        DUE.is("none signed", x.saw(0, 0), 0);
        int[][] bad = {{4, 0}, {-1, 0}, {0, 4}, {0, -1}};
        for (int[] b : bad) DUE.is("saw bad", x.saw(b[0], b[1]), BAD);
    }

    private static void blind() {
        NarrowBox x = desk();
        x.paper(0, 0, 8, 9999);
        x.paper(0, 1, 0, 9999);
        x.paper(0, 0, 8, 199);
        x.paper(0, 1, 0, 99);
        DUE.is("none signed", x.blind(1), 0);
        x.sign(0, 0, 0b0000);
        x.sign(1, 0, 0b0010);
        x.sign(2, 0, 0b0001);
        x.sign(3, 2, 0b1000);
        x.sign(4, 2, 0b0010);
        x.sign(5, 1, 0b0000);
        x.sign(6, 1, 0b0001);
        DUE.is("the older's hold", x.blind(0), 0);
        DUE.is("of the newer", x.blind(1), 0b0010011);
        x.sign(6, 3, 0b0010);
        DUE.is("one of several that were signed", x.blind(1), 0b1010011);
        DUE.is("blind bad", x.blind(2), BAD);
        DUE.is("blind bad below", x.blind(-1), BAD);
    }
}
