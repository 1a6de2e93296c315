/** Part 4 of the terms, sentence by sentence: papers, what they stand on, and who signed them. */
public final class PaperSentencesTest {
    private static final Due DUE = new Due();
    private static final int BAD = NarrowBox.BAD, FULL = NarrowBox.FULL, STATE = NarrowBox.STATE;

    public static void main(String[] args) {
        papersAsTheyCome();
        feltClaim();
        feltClaimOfEachMachine();
        boxClaim();
        valueDoesNotMatter();
        triedClaim();
        triedInEachFlight();
        triedClaimLimits();
        triedWhileOthersDie();
        triedAsNow();
        triedIsNoArgument();
        standsOnTwo();
        standsOnEarlier();
        holdsAlongAll();
        persons();
        signedOnce();
        signedBefore();
        saw();
        sawAlongAll();
        sawItself();
        blind();
        blindAlongAll();
        blindOfOneOfMany();
        blindOfEachMachine();
        DUE.end();
    }

    private static final int NONE = 9999;

    private static NarrowBox desk(int boxes, int flights) {
        NarrowBox x = new NarrowBox();
        for (int b = 0; b < boxes; b++) x.box(0);
        for (int f = 0; f < flights; f++) x.flight();
        return x;
    }

    private static void program(NarrowBox x, int box, String text) {
        if (Due.program(x, box, text) < 1) throw new IllegalArgumentException(text);
    }

    private static void papersAsTheyCome() {
        DUE.says("PAPERS 0 .. 19, as they come");
        NarrowBox x = desk(0, 0);
        for (int p = 0; p < 20; p++) {
            DUE.is("not yet", x.holds(0, p), BAD);
            DUE.is("not yet to be signed", x.sign(0, p, 0), BAD);
            DUE.is("not yet to stand on", x.paper(0, 0, 0, 100 * p + 99), BAD);
            DUE.is("nor as the other one", x.paper(0, 0, 0, 9900 + p), BAD);
            DUE.is("paper", x.paper(0, p % 3, p, NONE), p);
            DUE.is("how many", x.count(2), p + 1);
            DUE.is("it holds", x.holds(1, p), 1);
        }
        DUE.is("one more", x.paper(0, 0, 0, NONE), FULL);
        DUE.is("on others, too", x.paper(0, 0, 0, 1819), FULL);
        DUE.is("twenty", x.count(2), 20);
        DUE.is("none there", x.holds(0, 20), BAD);
    }

    private static void feltClaim() {
        DUE.says("a CLAIM: FELT k (0 .. 2) is v at most in size");
        for (int k = 0; k < 3; k++) {
            for (int v : new int[] {0, 1, 7, 99998, 99999}) {
                NarrowBox x = desk(0, 0);
                x.paper(0, k, v, NONE);
                int[][] spans = {{-v, v, 1}, {-v, -v, 1}, {v, v, 1}, {0, v, 1}, {-v, 0, 1}, {0, v + 1, 0}, {-v - 1, 0, 0}, {v + 1, v + 1, 0}, {-v - 1, -v - 1, 0}};
                for (int[] s : spans) {
                    if (x.span(k, s[0], s[1]) == 1) DUE.is(v + " in " + s[0] + " .. " + s[1], x.holds(0, 0), s[2]);
                }
                x.span(k, -v, v);
                for (int other = 0; other < 3; other++) if (other != k) x.span(other, -99999, 99999);
                DUE.is("other spans do not matter", x.holds(0, 0), 1);
            }
            NarrowBox x = desk(0, 0);
            for (int v : new int[] {-1, 100000, Integer.MIN_VALUE, Integer.MAX_VALUE}) DUE.is("no such size", x.paper(0, k, v, NONE), BAD);
        }
    }

    private static void feltClaimOfEachMachine() {
        DUE.says("HOLDS for a machine: the CLAIM is so by its SPANS");
        for (int k = 0; k < 3; k++) {
            NarrowBox x = desk(0, 0);
            x.paper(0, k, 5, NONE);
            int[][] spans = {{-5, 5}, {-6, 0}, {0, 6}, {6, 6}};
            for (int older = 0; older < 4; older++) {
                for (int newer = 0; newer < 4; newer++) {
                    x.span(k, spans[older][0], spans[older][1]);
                    x.span(10 + k, spans[newer][0], spans[newer][1]);
                    DUE.is("the older's", x.holds(0, 0), older == 0 ? 1 : 0);
                    DUE.is("the newer's", x.holds(1, 0), newer == 0 ? 1 : 0);
                }
            }
            for (int machine : new int[] {-1, 2}) DUE.is("no such machine", x.holds(machine, 0), BAD);
        }
    }

    private static void boxClaim() {
        DUE.says("or BOX b has no GAP (k 10 + b; v does not matter)");
        for (int b = 0; b < 6; b++) {
            NarrowBox x = desk(6, 0);
            for (int other = 0; other < 6; other++) program(x, other, "r0=1/0");
            program(x, b, "r0=7" + ";r0=7".repeat(10) + ";r0=f1*100");
            DUE.is("it is one", x.paper(0, 10 + b, 0, NONE), 0);
            x.span(1, -327, 327);
            x.span(11, -327, 328);
            DUE.is("no gap of the older", x.holds(0, 0), 1);
            DUE.is("one of the newer", x.holds(1, 0), 0);
            x.watch(b, 11, 1);
            DUE.is("watched", x.holds(1, 0), 1);
            NarrowBox y = desk(b, 0);
            DUE.is("no such box", y.paper(0, 10 + b, 0, NONE), BAD);
            DUE.is("the one below", y.paper(0, 9 + b, 0, NONE), b == 0 ? BAD : 0);
        }
        NarrowBox x = desk(6, 0);
        for (int k : new int[] {-1, 3, 4, 5, 6, 7, 8, 9, 16, 17, 100, Integer.MIN_VALUE, Integer.MAX_VALUE}) {
            DUE.is("no such claim", x.paper(0, k, 0, NONE), BAD);
        }
    }

    private static void valueDoesNotMatter() {
        DUE.says("v does not matter");
        NarrowBox x = desk(1, 0);
        int p = 0;
        for (int v : new int[] {0, -1, 1, 99, 100, 99999, 100000, Integer.MIN_VALUE, Integer.MAX_VALUE}) {
            DUE.is("v " + v, x.paper(0, 10, v, NONE), p++);
            DUE.is("it holds", x.holds(0, p - 1), 1);
        }
    }

    private static void triedClaim() {
        DUE.says("1 tried (with a FLIGHT: the BOX is not DEAD in n TICKS; k 10 + b, v: 100 times the FLIGHT, and n, 1 to 99;");
        for (int b = 0; b < 6; b++) {
            NarrowBox x = desk(6, 8);
            for (int f = 0; f < 8; f++) x.felt(10 * f, 90 - f, 1, 99);
            program(x, b, "r0=1/(99-f0)");
            for (int f = 0; f < 8; f++) {
                // It dies at tick 9 + f.
                DUE.is("not so many ticks", x.paper(1, 10 + b, 100 * f + 9 + f, NONE), 2 * f);
                DUE.is("one tick more", x.paper(1, 10 + b, 100 * f + 10 + f, NONE), 2 * f + 1);
                for (int machine = 0; machine < 2; machine++) {
                    DUE.is("not dead", x.holds(machine, 2 * f), 1);
                    DUE.is("dead", x.holds(machine, 2 * f + 1), 0);
                }
            }
        }
    }

    private static void triedInEachFlight() {
        DUE.says("v: 100 times the FLIGHT, and n, 1 to 99");
        for (int told = 0; told < 8; told++) {
            NarrowBox x = desk(1, 8);
            x.felt(10 * told, 1, 0, 1);
            program(x, 0, "r0=1/(1-f0)");
            for (int f = 0; f < 8; f++) {
                for (int n : new int[] {1, 99}) {
                    int paper = x.paper(1, 10, 100 * f + n, NONE);
                    DUE.is("dead in flight " + told + " alone", x.holds(0, paper), f == told ? 0 : 1);
                }
            }
        }
    }

    private static void triedClaimLimits() {
        DUE.says("v: 100 times the FLIGHT, and n, 1 to 99; SORT 0 with k 0 .. 2: v 0 .. 99999)");
        for (int flights = 0; flights <= 8; flights++) {
            NarrowBox x = desk(1, flights);
            for (int f = 0; f < flights; f++) {
                DUE.is("no ticks", x.paper(1, 10, 100 * f, NONE), BAD);
                DUE.is("one tick", x.paper(1, 10, 100 * f + 1, NONE), 2 * f);
                DUE.is("ninety-nine", x.paper(1, 10, 100 * f + 99, NONE), 2 * f + 1);
            }
            for (int v : new int[] {0, 1, 99}) DUE.is("no such flight", x.paper(1, 10, 100 * flights + v, NONE), BAD);
            for (int v : new int[] {-1, -99, -100, -101, Integer.MIN_VALUE, Integer.MAX_VALUE}) DUE.is("below", x.paper(1, 10, v, NONE), BAD);
            for (int k = 0; k < 3; k++) DUE.is("felt is not tried", x.paper(1, k, 1, NONE), BAD);
            DUE.is("no such box", x.paper(1, 11, 1, NONE), BAD);
            for (int sort : new int[] {-1, 2, Integer.MIN_VALUE, Integer.MAX_VALUE}) DUE.is("no such sort", x.paper(sort, 10, 1, NONE), BAD);
        }
        NarrowBox x = desk(1, 1);
        program(x, 0, "r0=1/(98-t)");
        x.paper(1, 10, 98, NONE);
        x.paper(1, 10, 99, NONE);
        DUE.is("tick 98 is not reached", x.holds(0, 0), 1);
        DUE.is("tick 98 is the last of 99", x.holds(0, 1), 0);
    }

    private static void triedWhileOthersDie() {
        DUE.says("the BOX is not DEAD in n TICKS");
        for (int b = 0; b < 6; b++) {
            NarrowBox x = desk(6, 1);
            for (int other = 0; other < 6; other++) program(x, other, other == b ? "?t=5:r0=1/0" : "?t=1:r0=1/0");
            x.paper(1, 10 + b, 5, NONE);
            x.paper(1, 10 + b, 6, NONE);
            DUE.is("others are dead", x.holds(0, 0), 1);
            DUE.is("it dies behind them", x.holds(0, 1), 0);
        }
    }

    private static void triedAsNow() {
        DUE.says("(Tried: as BOXES and FLIGHTS are now.)");
        NarrowBox x = desk(1, 1);
        program(x, 0, "r0=f0*10000");
        x.paper(1, 10, 5, NONE);
        DUE.is("nothing is felt", x.holds(0, 0), 1);
        x.felt(0, 0, 1, 99);
        DUE.is("as flights are now", x.holds(0, 0), 0);
        x.watch(0, 0, 1);
        DUE.is("as watches are now", x.holds(0, 0), 1);
        x.watch(0, 0, 0);
        x.bits(0, 0, 20);
        DUE.is("as bits are now", x.holds(0, 0), 1);
        program(x, 0, "r0=1/0");
        DUE.is("as programs are now", x.holds(0, 0), 0);
        program(x, 0, "r0=1/f0");
        x.row(0, 4, 1);
        x.put(0, 0, 4);
        x.feltRow(0, 0, 0);
        DUE.is("rows are felt", x.holds(0, 0), 1);
        x.box(2);
        program(x, 0, "r0=1/(9-i0)");
        program(x, 1, "s0=9");
        x.wire(0, 0, 1, 0);
        DUE.is("as wires are now", x.holds(0, 0), 0);
    }

    private static void triedIsNoArgument() {
        DUE.says("HOLDS for a machine: the CLAIM is so by its SPANS (tried: is so)");
        NarrowBox x = desk(1, 1);
        program(x, 0, "r0=f0*10000");
        x.paper(1, 10, 5, NONE);
        x.paper(0, 10, 5, NONE);
        x.span(10, 0, 4);
        DUE.is("tried, for the older", x.holds(0, 0), 1);
        DUE.is("tried, for the newer", x.holds(1, 0), 1);
        DUE.is("argued, for the older", x.holds(0, 1), 1);
        DUE.is("argued, for the newer", x.holds(1, 1), 0);
        program(x, 0, "?0:r0=1/0");
        DUE.is("tried it lives", x.holds(0, 0), 1);
        DUE.is("argued it has a gap", x.holds(0, 1), 0);
        program(x, 0, "r0=5;kr0=1;!r0=t;r0=1/(t+1)");
        DUE.is("argued it has none", x.holds(0, 1), 1);
    }

    /** A paper that holds for both machines, or for the older alone. */
    private static int paper(NarrowBox x, boolean newerToo, int on) {
        return x.paper(0, newerToo ? 1 : 0, 5, on);
    }

    private static NarrowBox newerIsWider() {
        NarrowBox x = desk(1, 1);
        x.span(10, 0, 6);
        return x;
    }

    private static void standsOnTwo() {
        DUE.says("STANDS ON up to two earlier PAPERS");
        for (int a = 0; a <= 3; a++) {
            for (int b = 0; b <= 3; b++) {
                NarrowBox x = newerIsWider();
                for (int p = 0; p < 3; p++) paper(x, p != 1, NONE);
                int on = 100 * (a == 3 ? 99 : a) + (b == 3 ? 99 : b);
                DUE.is("on " + on, paper(x, true, on), 3);
                DUE.is("for the older", x.holds(0, 3), 1);
                DUE.is("for the newer", x.holds(1, 3), a == 1 || b == 1 ? 0 : 1);
                x.sign(0, 3, 0b1000);
                for (int other = 0; other < 3; other++) {
                    DUE.is("it stands on " + other, x.saw(3, other), a == other || b == other ? 1 : 0);
                }
            }
        }
        NarrowBox x = newerIsWider();
        for (int p = 0; p < 19; p++) paper(x, p != 18, NONE);
        DUE.is("the last one on the first", paper(x, true, 1800), 19);
        DUE.is("that one does not hold", x.holds(1, 19), 0);
    }

    private static void standsOnEarlier() {
        DUE.says("on: 100 times the one on which it STANDS and the other one (99: none), earlier ones.");
        NarrowBox x = desk(0, 0);
        for (int made = 0; made < 3; made++) {
            for (int on : new int[] {-1, -99, -9999, 100 * made + 99, 9900 + made, 101 * made, 9998, 9800 + 99, 10000, 10099, 19999, 10100 + 99, Integer.MIN_VALUE, Integer.MAX_VALUE}) {
                DUE.is("on " + on, x.paper(0, 0, 0, on), BAD);
            }
            DUE.is("none", x.count(2), made);
            x.paper(0, 0, 0, NONE);
        }
        DUE.is("on the last one", x.paper(0, 0, 0, 202), 3);
    }

    private static void holdsAlongAll() {
        DUE.says("and all on which it STANDS HOLD.");
        for (int wrong = 0; wrong < 20; wrong++) {
            NarrowBox x = newerIsWider();
            for (int p = 0; p < 20; p++) paper(x, p != wrong, p == 0 ? NONE : p % 2 == 0 ? 9900 + p - 1 : 100 * (p - 1) + 99);
            for (int p = 0; p < 20; p++) {
                DUE.is("older " + p, x.holds(0, p), 1);
                DUE.is("newer " + p, x.holds(1, p), p < wrong ? 1 : 0);
            }
        }
    }

    private static void persons() {
        DUE.says("PERSONS 0 .. 11 sign a PAPER with PAPERS before them (bits)");
        NarrowBox x = desk(0, 0);
        for (int p = 0; p < 2; p++) x.paper(0, 0, 0, NONE);
        for (int person : new int[] {-1, 12, Integer.MIN_VALUE, Integer.MAX_VALUE}) DUE.is("no such person", x.sign(person, 0, 0), BAD);
        for (int person = 0; person < 12; person++) {
            DUE.is("person " + person, x.sign(person, 1, 1), person + 1);
            DUE.is("all that did", x.saw(1, 0), (1 << person + 1) - 1);
            DUE.is("none that had the other", x.saw(1, 1), 0);
            DUE.is("none of the other paper", x.saw(0, 0), 0);
        }
        DUE.is("all of them", x.saw(1, 0), 4095);
    }

    private static void signedOnce() {
        DUE.says("how many PERSONS signed it. BAD; STATE: that one did.");
        NarrowBox x = desk(0, 0);
        for (int p = 0; p < 20; p++) x.paper(0, 0, 0, NONE);
        for (int p = 0; p < 20; p++) {
            DUE.is("first", x.sign(p % 12, p, 0), 1);
            DUE.is("once more", x.sign(p % 12, p, 0), STATE);
            DUE.is("with others before", x.sign(p % 12, p, 1), STATE);
            DUE.is("that is not kept", x.saw(p, 0), 0);
            DUE.is("another one", x.sign((p + 1) % 12, p, 0), 2);
            DUE.is("that is bad", x.sign(p % 12, p, 1 << 20), BAD);
        }
        DUE.is("no such paper", x.sign(0, 20, 0), BAD);
        DUE.is("none below", x.sign(0, -1, 0), BAD);
    }

    private static void signedBefore() {
        DUE.says("A PERSON SIGNED a PAPER with PAPERS before them (bits of those that there are)");
        NarrowBox x = desk(0, 0);
        for (int made = 1; made <= 20; made++) {
            x.paper(0, 0, 0, NONE);
            DUE.is("one too many", x.sign(0, made - 1, 1 << made), BAD);
            DUE.is("far too many", x.sign(0, made - 1, 1 << 30), BAD);
            DUE.is("all bits", x.sign(0, made - 1, -1), BAD);
            DUE.is("the sign alone", x.sign(0, made - 1, Integer.MIN_VALUE), BAD);
            DUE.is("all that there are", x.sign(0, made - 1, (1 << made) - 1), 1);
            for (int other = 0; other < made; other++) DUE.is("it had " + other, x.saw(made - 1, other), 1);
        }
    }

    private static void saw() {
        DUE.says("SAW: who signed a PAPER (bits of PERSONS) and had before them, or what those STAND ON (along all of it), a told PAPER.");
        NarrowBox x = desk(0, 0);
        for (int p = 0; p < 12; p++) x.paper(0, 0, 0, NONE);
        for (int person = 0; person < 12; person++) x.sign(person, 11, 1 << person | 1 << (person + 5) % 12);
        for (int other = 0; other < 12; other++) {
            DUE.is("who had " + other, x.saw(11, other), 1 << other | 1 << (other + 7) % 12);
            DUE.is("of a paper that none signed", x.saw(other % 11, other), 0);
        }
        int[][] bad = {{12, 0}, {-1, 0}, {0, 12}, {0, -1}, {Integer.MIN_VALUE, 0}, {0, Integer.MAX_VALUE}};
        for (int[] b : bad) DUE.is("no such paper", x.saw(b[0], b[1]), BAD);
    }

    private static void sawAlongAll() {
        DUE.says("or what those STAND ON (along all of it), a told PAPER");
        NarrowBox x = desk(0, 0);
        for (int p = 0; p < 20; p++) x.paper(0, 0, 0, p == 0 ? NONE : p < 3 ? 9900 : 100 * (p - 1) + p - 2);
        for (int p = 0; p < 12; p++) x.sign(p, 19, 1 << p);
        for (int other = 0; other < 20; other++) {
            int want = 0;
            for (int p = 0; p < 12; p++) {
                boolean along = other <= p && !(other == 1 && p == 2);
                want |= along ? 1 << p : 0;
            }
            DUE.is("who saw " + other, x.saw(19, other), want);
        }
    }

    private static void sawItself() {
        DUE.says("who signed a PAPER (bits of PERSONS) and had before them");
        NarrowBox x = desk(0, 0);
        x.paper(0, 0, 0, NONE);
        x.paper(0, 0, 0, 99);
        x.sign(0, 1, 0);
        x.sign(1, 1, 0b10);
        DUE.is("what it stands on is not before the first", x.saw(1, 0), 0b10);
        DUE.is("itself is before the second", x.saw(1, 1), 0b10);
    }

    private static void blind() {
        DUE.says("BLIND: who signed one that does not HOLD (for a machine), where all PAPERS before them, and what those STAND ON, HOLD.");
        for (int person = 0; person < 12; person++) {
            NarrowBox x = newerIsWider();
            paper(x, true, NONE);
            paper(x, false, NONE);
            paper(x, false, NONE);
            DUE.is("none signed", x.blind(1), 0);
            x.sign(person, 0, 0b110);
            DUE.is("one that holds", x.blind(1), 0);
            x.sign(person, 1, 0b100);
            DUE.is("one that does not hold was before them", x.blind(1), 0);
            x.sign(person, 2, 0b001);
            DUE.is("blind", x.blind(1), 1 << person);
            DUE.is("not for the older", x.blind(0), 0);
        }
        NarrowBox x = newerIsWider();
        paper(x, false, NONE);
        x.sign(3, 0, 0);
        DUE.is("with none before them", x.blind(1), 8);
        x.sign(4, 0, 1);
        DUE.is("with itself before them", x.blind(1), 8);
        for (int machine : new int[] {-1, 2, Integer.MIN_VALUE, Integer.MAX_VALUE}) DUE.is("no such machine", x.blind(machine), BAD);
    }

    private static void blindAlongAll() {
        DUE.says("where all PAPERS before them, and what those STAND ON, HOLD");
        NarrowBox x = newerIsWider();
        paper(x, true, NONE);
        paper(x, false, NONE);
        paper(x, true, 1);
        paper(x, true, 299);
        paper(x, true, 9900);
        paper(x, false, NONE);
        for (int p = 0; p < 5; p++) x.sign(p, 5, 1 << p);
        x.sign(5, 5, 0b10001);
        x.sign(6, 5, 0b10011);
        DUE.is("1 does not hold, 2 and 3 stand on it", x.blind(1), 0b0110001);
        NarrowBox y = newerIsWider();
        paper(y, false, NONE);
        paper(y, true, 99);
        paper(y, true, NONE);
        y.sign(0, 1, 0b100);
        DUE.is("its own ground does not hold", y.blind(1), 1);
        y.sign(1, 1, 0b001);
        DUE.is("that was before them", y.blind(1), 1);
    }

    private static void blindOfOneOfMany() {
        DUE.says("BLIND for a machine, as bits. BAD.");
        NarrowBox x = newerIsWider();
        for (int p = 0; p < 20; p++) paper(x, p % 2 == 0, NONE);
        for (int p = 0; p < 20; p++) x.sign(p % 12, p, p < 12 ? 2 : 0);
        DUE.is("of the last ones alone", x.blind(1), 1 << 1 | 1 << 3 | 1 << 5 | 1 << 7);
        x.sign(11, 19, 1);
        DUE.is("and one more", x.blind(1), 1 << 1 | 1 << 3 | 1 << 5 | 1 << 7 | 1 << 11);
    }

    private static void blindOfEachMachine() {
        DUE.says("who signed one that does not HOLD (for a machine)");
        NarrowBox x = desk(1, 1);
        x.span(0, 0, 6);
        x.span(11, 0, 6);
        x.paper(0, 0, 5, NONE);
        x.paper(0, 1, 5, NONE);
        x.sign(0, 0, 2);
        x.sign(1, 1, 1);
        x.sign(2, 0, 0);
        x.sign(3, 1, 0);
        DUE.is("of the older", x.blind(0), 0b0101);
        DUE.is("of the newer", x.blind(1), 0b1010);
    }
}
