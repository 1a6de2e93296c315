/** Part 3 of the terms, sentence by sentence: how far a fault goes, twins, what is needed, watches, fewest flights. */
public final class FaultSentencesTest {
    private static final Due DUE = new Due();
    private static final int BAD = NarrowBox.BAD, NOT = NarrowBox.NOT, STATE = NarrowBox.STATE;

    public static void main(String[] args) {
        itself();
        someSlot();
        somePort();
        beingDead();
        anotherFault();
        fromTheNextTick();
        deadAhead();
        deadOfTheSame();
        faultsAndTicks();
        twinIsOfABox();
        worth();
        worthOfToldFlights();
        worthWhenBothAreDead();
        neededLatest();
        neededStopped();
        neededByOthers();
        neededNever();
        neededLimits();
        bestNone();
        bestFewestLines();
        bestLeastBits();
        bestFirstEight();
        bestOwn();
        bestInAllFlights();
        bestNever();
        bestTime();
        bestWhileOthersDie();
        fewestOf();
        fewestFirst();
        fewestNone();
        fewestOneAfterTheOther();
        fewestOfTold();
        DUE.end();
    }

    private static NarrowBox boxes(int... kinds) {
        NarrowBox x = new NarrowBox();
        for (int kind : kinds) x.box(kind);
        x.flight();
        return x;
    }

    private static void program(NarrowBox x, int box, String text) {
        if (Due.program(x, box, text) < 1) throw new IllegalArgumentException(text);
    }

    private static void itself() {
        DUE.says("BOXES (bits) of which some SLOT, PORT or being DEAD is unlike behind the last TICK, if the told BOX has the FAULT f from a told TICK on");
        NarrowBox x = boxes(0, 1, 2, 3, 4, 5);
        for (int b = 0; b < 6; b++) {
            DUE.is("itself", x.far(b, 0, 3, 1000), 1 << b);
            DUE.is("in the last tick", x.far(b, 0, 3, 1002), 1 << b);
            DUE.is("behind the last tick", x.far(b, 0, 3, 1003), 0);
            DUE.is("far behind it", x.far(b, 0, 3, 1199), 0);
            DUE.is("in the last of all", x.far(b, 0, 200, 9199), 1 << b);
            DUE.is("the last of all is not reached", x.far(b, 0, 199, 9199), 0);
        }
    }

    private static void someSlot() {
        DUE.says("some SLOT, PORT or being DEAD is unlike");
        for (int told = 0; told < 6; told++) {
            for (int slot = 0; slot < 8; slot++) {
                int other = (told + 1 + slot) % 6;
                if (other == told) continue;
                NarrowBox x = boxes(2, 2, 2, 2, 2, 2);
                x.wire(other, 0, told, slot % 4);
                program(x, other, "r" + slot + "=i0/9001");
                DUE.is("a slot", x.far(told, 0, 3, 1000), 1 << told | 1 << other);
                program(x, other, "r" + slot + "=i0/9002");
                DUE.is("it is alike", x.far(told, 0, 3, 1000), 1 << told);
            }
        }
    }

    private static void somePort() {
        DUE.says("some SLOT, PORT or being DEAD is unlike");
        for (int told = 0; told < 6; told++) {
            for (int port = 0; port < 4; port++) {
                int other = (told + 1 + port) % 6;
                NarrowBox x = boxes(2, 2, 2, 2, 2, 2);
                x.wire(other, 3, told, port);
                program(x, other, "s" + port + "=i3/9001");
                DUE.is("a port", x.far(told, 0, 3, 1000), 1 << told | 1 << other);
                program(x, other, "s" + port + "=i3/9002");
                DUE.is("it is alike", x.far(told, 0, 3, 1000), 1 << told);
            }
        }
    }

    private static void beingDead() {
        DUE.says("some SLOT, PORT or being DEAD is unlike");
        for (int kind = 0; kind < 7; kind++) {
            NarrowBox x = boxes(0, kind);
            x.wire(1, 0, 0, 0);
            program(x, 1, "r0=0*i0");
            DUE.is("dead of fault 4, but of STEERING", x.far(0, 0, 3, 1000), kind == 2 ? 0b01 : 0b11);
            program(x, 1, "r0=0*i0;kr0=0");
            DUE.is("it is caught", x.far(0, 0, 3, 1000), 0b01);
            program(x, 1, "?t=9:r0=i0");
            DUE.is("it is not read", x.far(0, 0, 3, 1000), 0b01);
            program(x, 1, "?t=1:r0=i0;?t>1:r1=1/0");
            DUE.is("dead both, of other faults", x.far(0, 0, 3, 1000), 0b11);
        }
    }

    private static void anotherFault() {
        DUE.says("sends f from then on");
        for (int fault = 1; fault <= 9; fault++) {
            NarrowBox x = boxes(0, 2, 0);
            x.wire(1, 0, 0, 3);
            x.wire(2, 0, 0, 3);
            program(x, 1, "r0=(i0=900" + fault + ")*(t>2)");
            program(x, 2, "r0=0*i0;kr0=(e=4)*0");
            DUE.is("seen as such", x.far(0, 0, 4, 1000 * fault), 0b011);
            DUE.is("not as another one", x.far(0, 0, 4, 1000 * (fault % 9 + 1)), 0b001);
        }
    }

    private static void fromTheNextTick() {
        DUE.says("others see that from the next TICK on");
        NarrowBox x = boxes(0, 0, 0, 0, 0, 0);
        for (int b = 0; b < 6; b++) {
            program(x, b, "s0=i0");
            x.wire(b, 0, (b + 1) % 6, 0);
        }
        int[] want = {0b000000, 0b000001, 0b100001, 0b110001, 0b111001, 0b111101, 0b111111, 0b111111};
        for (int ticks = 0; ticks < want.length; ticks++) DUE.is("ticks " + ticks, x.far(0, 0, 20, 5020 - ticks), want[ticks]);
        NarrowBox y = boxes(2, 0);
        y.wire(0, 0, 1, 0);
        program(y, 0, "?i0>9000:r0=1;r1=i0*(t=7)");
        DUE.is("one of a lower number, too", y.far(1, 0, 4, 3003), 0b10);
        DUE.is("it sees it a tick later", y.far(1, 0, 4, 3002), 0b11);
        program(y, 1, "s0=t");
        program(y, 0, "r0=i0");
        DUE.is("it is dead at its beginning: nothing is sent any more", y.far(1, 0, 5, 3004), 0b10);
    }

    private static void deadAhead() {
        DUE.says("(it is DEAD at its beginning, sends f from then on, also if it was DEAD ahead;");
        NarrowBox x = boxes(0, 2);
        x.wire(1, 0, 0, 0);
        program(x, 0, "r0=t;r1=1/(t-3)");
        program(x, 1, "r0=i0");
        DUE.is("from its own tick on, another fault", x.far(0, 0, 9, 5003), 0b11);
        DUE.is("slots stay as they were at the beginning of the tick", x.far(0, 0, 9, 3003), 0b01);
        DUE.is("dead ahead, of another one then", x.far(0, 0, 9, 5004), 0b11);
        DUE.is("not seen any more", x.far(0, 0, 9, 5008), 0b01);
        DUE.is("seen in the last tick", x.far(0, 0, 9, 5007), 0b11);
        DUE.is("dead ahead, of the same", x.far(0, 0, 9, 3004), 0);
        DUE.is("ahead of its own death", x.far(0, 0, 9, 3002), 0b01);
    }

    private static void deadOfTheSame() {
        DUE.says("some SLOT, PORT or being DEAD is unlike behind the last TICK");
        for (int b = 0; b < 6; b++) {
            NarrowBox x = boxes(0, 0, 0, 0, 0, 0);
            program(x, b, "s0=t+1;s1=t+2;s2=t+3;s3=t+4;?t=3:r7=1/0");
            DUE.is("what was sent ahead of the fault is sent no more", x.far(b, 0, 9, 3001), 0);
            DUE.is("another fault is", x.far(b, 0, 9, 2001), 1 << b);
            DUE.is("not yet dead by itself", x.far(b, 0, 3, 3001), 1 << b);
            program(x, b, "r" + b + "=t+1;?t=3:r7=1/0");
            DUE.is("but slots stay", x.far(b, 0, 9, 3001), 1 << b);
        }
    }

    private static void faultsAndTicks() {
        DUE.says("with FAULT f (1 .. 9) from a TICK on. BAD. ft: 1000 times f, and the TICK.");
        NarrowBox x = boxes(0);
        for (int fault = -1; fault <= 11; fault++) {
            for (int tick : new int[] {0, 1, 199, 200, 201, 999}) {
                int want = fault < 1 || fault > 9 || tick > 199 ? BAD : 1;
                DUE.is("fault " + fault + " from " + tick, x.far(0, 0, 200, 1000 * fault + tick), want);
            }
        }
    }

    private static void twinIsOfABox() {
        DUE.says("A TWIN (KIND 1) is of a BOX: 1. BAD.");
        for (int kind = 0; kind < 7; kind++) {
            NarrowBox x = boxes(0, kind, 1);
            DUE.is("of kind " + kind, x.twin(1, 0), kind == 1 ? 1 : BAD);
            DUE.is("of the one behind it", x.twin(1, 2), kind == 1 ? 1 : BAD);
            DUE.is("of itself", x.twin(1, 1), BAD);
            DUE.is("of any kind", x.twin(2, 1), 1);
            DUE.is("told once more", x.twin(2, 0), 1);
            DUE.is("of none", x.twin(2, 3), BAD);
            DUE.is("of none below", x.twin(2, -1), BAD);
            DUE.is("no such twin", x.twin(3, 0), BAD);
            DUE.is("no such twin below", x.twin(-1, 0), BAD);
        }
    }

    private static void worth() {
        DUE.says("in how many FLIGHTS (of told bits) for n TICKS the BOX is DEAD and the TWIN is not");
        for (int f = 0; f < 8; f++) {
            NarrowBox x = boxes(0, 1);
            for (int more = 1; more < 8; more++) x.flight();
            x.twin(1, 0);
            x.felt(10 * f, 5, 1, 99);
            program(x, 0, "r0=1/(8-f0)");
            program(x, 1, "r0=1/(9-f0)");
            DUE.is("not yet", x.worth(1, 255, 3), 0);
            DUE.is("in that tick", x.worth(1, 255, 4), 1);
            DUE.is("a tick later both", x.worth(1, 255, 5), 0);
            DUE.is("without that flight", x.worth(1, 255 - (1 << f), 4), 0);
            DUE.is("that flight alone", x.worth(1, 1 << f, 4), 1);
            DUE.is("no flights", x.worth(1, 0, 4), 0);
            DUE.is("in none of these", x.worth(1, 256, 4), BAD);
        }
        NarrowBox x = boxes(0, 1);
        for (int more = 1; more < 8; more++) x.flight();
        x.twin(1, 0);
        program(x, 0, "r0=1/0");
        DUE.is("in all", x.worth(1, 255, 1), 8);
        program(x, 1, "r0=1/0");
        DUE.is("both in all", x.worth(1, 255, 1), 0);
    }

    private static void worthOfToldFlights() {
        DUE.says("TWIN'S WORTH. BAD; STATE: it is of none.");
        NarrowBox x = boxes(0, 1, 1, 4);
        program(x, 0, "r0=1/0");
        program(x, 3, "r0=1/(2-t)");
        DUE.is("of none", x.worth(1, 1, 1), STATE);
        DUE.is("of none, without flights", x.worth(1, 0, 1), STATE);
        DUE.is("a box is no twin", x.worth(0, 1, 1), BAD);
        DUE.is("kept neither", x.worth(3, 1, 1), BAD);
        x.twin(1, 0);
        DUE.is("of box 0", x.worth(1, 1, 1), 1);
        DUE.is("the other twin is of none still", x.worth(2, 1, 1), STATE);
        x.twin(1, 3);
        DUE.is("of box 3, one tick", x.worth(1, 1, 2), 0);
        DUE.is("of box 3", x.worth(1, 1, 3), 1);
        x.twin(2, 1);
        DUE.is("a twin's twin", x.worth(2, 1, 3), 0);
        program(x, 1, "r0=1/0");
        DUE.is("now it is worth one", x.worth(2, 1, 3), 1);
    }

    private static void worthWhenBothAreDead() {
        DUE.says("the BOX is DEAD and the TWIN is not");
        String[] lives = {"r0=1", "r0=1/0"};
        for (int box = 0; box < 2; box++) {
            for (int twin = 0; twin < 2; twin++) {
                NarrowBox x = boxes(0, 1);
                x.twin(1, 0);
                program(x, 0, lives[box]);
                program(x, 1, lives[twin]);
                DUE.is("dead " + box + " " + twin, x.worth(1, 1, 1), box == 1 && twin == 0 ? 1 : 0);
            }
        }
    }

    private static void neededLatest() {
        DUE.says("the latest TICK (0 .. n - 1) at which, if the BOX were stopped from that TICK on");
        NarrowBox x = boxes(0, 0);
        x.wire(1, 0, 0, 0);
        program(x, 1, "r0=i0");
        for (int last = 0; last < 9; last++) {
            program(x, 0, "?t<" + (last + 1) + ":s0=t+1");
            DUE.is("it sends till " + last, x.needed(0, 0, 10), last);
            program(x, 0, "?t=" + last + ":s0=1");
            DUE.is("it sends once, at " + last, x.needed(0, 0, 10), last);
        }
        program(x, 0, "?t=9:s0=1");
        DUE.is("none reads what is sent in the last tick", x.needed(0, 0, 10), NOT);
        DUE.is("with one more they do", x.needed(0, 0, 11), 9);
        program(x, 0, "?t=3:s0=5;?t=4:s0=0");
        DUE.is("what it sends to and fro ends alike when it is stopped ahead", x.needed(0, 0, 10), 4);
    }

    private static void neededStopped() {
        DUE.says("(its PORTS send what they sent last, its SLOTS stay; it is not DEAD)");
        NarrowBox x = boxes(0, 0);
        x.wire(1, 0, 0, 0);
        program(x, 0, "s0=7");
        program(x, 1, "r0=i0;kr0=e");
        DUE.is("0 was sent ahead of tick 0, 7 from then on", x.needed(0, 0, 20), 0);
        program(x, 0, "s0=7;?t=5:r0=1/0");
        DUE.is("it would not die", x.needed(0, 0, 20), 5);
        program(x, 0, "?t=5:r0=1/0");
        DUE.is("stopped behind its death it sends its fault", x.needed(0, 0, 20), 5);
        DUE.is("they do not see it in its own tick", x.needed(0, 0, 6), NOT);
        DUE.is("they see it a tick later", x.needed(0, 0, 7), 5);
        program(x, 0, "r0=r0+1;s1=r0");
        DUE.is("its own slots and ports do not matter", x.needed(0, 0, 20), NOT);
    }

    private static void neededByOthers() {
        DUE.says("some other BOX would be unlike behind TICK n - 1 in a told FLIGHT");
        for (int told = 0; told < 6; told++) {
            for (int reader = 0; reader < 6; reader++) {
                if (reader == told) continue;
                for (int input = 0; input < 4; input++) {
                    NarrowBox x = boxes(0, 0, 0, 0, 0, 0);
                    x.wire(reader, input, told, input);
                    program(x, told, "s" + input + "=t+1");
                    program(x, reader, "r" + (input + 4) + "=i" + input);
                    DUE.is(told + " read by " + reader, x.needed(told, 0, 9), 7);
                    program(x, reader, "s" + input + "=i" + input);
                    DUE.is("sent on", x.needed(told, 0, 9), 7);
                    program(x, reader, "r0=1/(4-i" + input + ")");
                    DUE.is("dead or not", x.needed(told, 0, 9), 3);
                }
            }
        }
        NarrowBox x = boxes(0, 0, 0);
        x.flight();
        x.wire(1, 0, 0, 0);
        x.wire(2, 0, 1, 0);
        x.felt(10, 3, 0, 9);
        program(x, 0, "s0=t");
        program(x, 1, "s0=i0*0;r1=i0*f0");
        DUE.is("nothing is felt", x.needed(0, 0, 9), NOT);
        DUE.is("in the other flight", x.needed(0, 1, 9), 7);
        program(x, 1, "s0=i0");
        program(x, 2, "r0=i0");
        DUE.is("through another one", x.needed(1, 0, 9), 7);
    }

    private static void neededNever() {
        DUE.says("NOT: never.");
        NarrowBox x = boxes(0, 0);
        DUE.is("no programs", x.needed(0, 0, 200), NOT);
        x.wire(0, 0, 0, 0);
        program(x, 0, "s0=i0+1;r0=i0");
        DUE.is("it reads itself", x.needed(0, 0, 200), NOT);
        x.wire(1, 0, 0, 1);
        program(x, 1, "r0=i0");
        DUE.is("another port is read", x.needed(0, 0, 200), NOT);
        x.wire(1, 0, 0, 0);
        DUE.is("read", x.needed(0, 0, 200), 198);
        DUE.is("one tick", x.needed(0, 0, 1), NOT);
        DUE.is("two", x.needed(0, 0, 2), 0);
        NarrowBox y = boxes(0);
        program(y, 0, "s0=t");
        DUE.is("there is no other", y.needed(0, 0, 9), NOT);
    }

    private static void neededLimits() {
        DUE.says("NEEDED; NOT. BAD.");
        NarrowBox x = boxes(0, 0);
        int[][] bad = {{-1, 0, 5}, {2, 0, 5}, {0, -1, 5}, {0, 1, 5}, {0, 0, 0}, {0, 0, 201}, {0, 0, -1}};
        for (int[] b : bad) DUE.is("needed bad", x.needed(b[0], b[1], b[2]), BAD);
        x.wire(1, 0, 0, 0);
        program(x, 1, "r0=i0");
        program(x, 0, "?t=198:s0=1");
        DUE.is("the last that can be", x.needed(0, 0, 200), 198);
        DUE.is("one tick less", x.needed(0, 0, 199), NOT);
    }

    private static void bestNone() {
        DUE.says("to WATCH so that in told FLIGHTS (bits) for n TICKS it is never DEAD");
        NarrowBox x = boxes(0);
        for (int what = 0; what < 2; what++) {
            DUE.is("no program", x.best(0, 1, 1001, what), 0);
            program(x, 0, "r0=t*4000");
            DUE.is("it lives", x.best(0, 1, 1009, what), 0);
            DUE.is("a tick more", x.best(0, 1, 1010, what), 1);
            DUE.is("no flights", x.best(0, 0, 1010, what), 0);
        }
    }

    private static void bestFewestLines() {
        DUE.says("the least TIME together (number of LINES times that)");
        NarrowBox x = boxes(0);
        program(x, 0, "r0=40000;r1=40000;kr2=40000");
        DUE.is("one line, not two of lower numbers", x.best(0, 1, 3001, 1), 0b100);
        DUE.is("its time", x.best(0, 1, 3001, 0), 3);
        program(x, 0, "r0=40000;r1=40000;r2=40000;k?1:r3=40000");
        DUE.is("one line, not three", x.best(0, 1, 1005, 1), 0b1000);
        program(x, 0, "r0=40000;r1=40000;kr2=40000;r3=40000;kr4=40000*2");
        DUE.is("one in all", x.best(0, 1, 1005, 0), 1);
        DUE.is("the last one catches all", x.best(0, 1, 1005, 1), 0b10000);
        program(x, 0, "r0=40000;r1=40000;kr2=40000;r3=40000");
        DUE.is("two, not three", x.best(0, 1, 9001, 1), 0b1100);
        DUE.is("their time", x.best(0, 1, 9001, 0), 18);
    }

    private static void bestLeastBits() {
        DUE.says("of like ones the least as bits; NOT: none.");
        NarrowBox x = boxes(0);
        program(x, 0, "r0=40000;kr1=40000");
        DUE.is("either", x.best(0, 1, 1001, 1), 0b01);
        program(x, 0, "r7=1;r0=40000;kr1=40000");
        DUE.is("either of the others", x.best(0, 1, 1001, 1), 0b010);
        program(x, 0, "r0=40000;kr1=40000;r2=40000;kr3=40000");
        DUE.is("the last one alone", x.best(0, 1, 1001, 1), 0b1000);
        program(x, 0, "r0=40000;kr1=40000;kr2=40000;kr3=40000");
        DUE.is("one of four", x.best(0, 1, 1001, 1), 0b0001);
        program(x, 0, "?f0=0:r0=1/0;kr0=40000;kr1=40000;kr2=40000");
        DUE.is("one of three", x.best(0, 1, 1001, 1), 0b0010);
    }

    private static void bestFirstEight() {
        DUE.says("BEST: the set of LINES of a BOX (of the first 8, without a WATCH of their own; the others keep theirs)");
        for (int l = 0; l < 12; l++) {
            NarrowBox x = boxes(0);
            StringBuilder text = new StringBuilder();
            for (int i = 0; i < 12; i++) text.append(i == 0 ? "" : ";").append(i == l ? "r0=40000" : "r1=1");
            program(x, 0, text.toString());
            DUE.is("line " + l, x.best(0, 1, 1001, 1), l < 8 ? 1 << l : NOT);
            DUE.is("its time", x.best(0, 1, 7001, 0), l < 8 ? 7 : NOT);
            DUE.is("it is not watched behind that", x.line(0, l, 2), 0);
            x.watch(0, l, 1);
            DUE.is("watched already", x.best(0, 1, 1001, 1), 0);
            DUE.is("it is still", x.line(0, l, 2), 1);
        }
        NarrowBox x = boxes(0);
        program(x, 0, "r0=40000" + ";r0=40000".repeat(7));
        DUE.is("all eight", x.best(0, 1, 9001, 1), 255);
        DUE.is("their time", x.best(0, 1, 9001, 0), 72);
        program(x, 0, "r0=40000" + ";r0=40000".repeat(8));
        DUE.is("nine are too many", x.best(0, 1, 9001, 0), NOT);
        program(x, 0, "r0=40000" + ";r0=40000".repeat(7) + ";!r0=40000");
        DUE.is("the ninth has its own", x.best(0, 1, 9001, 1), 255);
    }

    private static void bestOwn() {
        DUE.says("without a WATCH of their own; the others keep theirs");
        NarrowBox x = boxes(0);
        for (int own = 0; own < 16; own++) {
            StringBuilder text = new StringBuilder();
            for (int l = 0; l < 4; l++) text.append(l == 0 ? "" : ";").append((own >> l & 1) == 1 ? "!" : "").append("r0=40000");
            program(x, 0, text.toString());
            DUE.is("the rest", x.best(0, 1, 2001, 1), 15 & ~own);
            DUE.is("its time", x.best(0, 1, 2001, 0), 2 * Integer.bitCount(15 & ~own));
            for (int l = 0; l < 4; l++) DUE.is("as before", x.line(0, l, 2), own >> l & 1);
        }
        program(x, 0, "!r0=40000;r1=1/(r0-32767)");
        DUE.is("its own watch kills", x.best(0, 1, 2001, 0), NOT);
    }

    private static void bestInAllFlights() {
        DUE.says("in told FLIGHTS (bits)");
        NarrowBox x = boxes(0);
        for (int f = 1; f < 8; f++) x.flight();
        for (int f = 0; f < 8; f++) x.felt(10 * f, f, 0, 9);
        StringBuilder text = new StringBuilder();
        for (int l = 0; l < 8; l++) text.append(l == 0 ? "" : ";").append("?f0=" + l + ":r0=40000");
        program(x, 0, text.toString());
        for (int flights = 0; flights < 256; flights += 5) DUE.is("flights " + flights, x.best(0, flights, 1001, 1), flights);
        DUE.is("all", x.best(0, 255, 1001, 0), 8);
        DUE.is("a ninth", x.best(0, 256, 1001, 0), BAD);
    }

    private static void bestNever() {
        DUE.says("of like ones the least as bits; NOT: none.");
        NarrowBox x = boxes(0);
        for (String deadly : new String[] {"r0=1/0", "r0=99999*99999", "?1/0:r0=1"}) {
            program(x, 0, deadly);
            DUE.is("no watch helps", x.best(0, 1, 1001, 0), NOT);
            DUE.is("no lines", x.best(0, 1, 1001, 1), NOT);
            program(x, 0, deadly + ";kr0=40000");
            DUE.is("the one that catches", x.best(0, 1, 1001, 1), 0b10);
        }
        program(x, 0, "r0=40000;kr1=1/0;r2=1/(r0-32767)");
        DUE.is("watched it goes on to its death", x.best(0, 1, 1001, 0), NOT);
    }

    private static void bestTime() {
        DUE.says("TIME told for each (1 .. 9; of a LINE without one of its own)");
        NarrowBox x = boxes(0);
        program(x, 0, "r0=40000;r1=1;r2=40000");
        for (int time = -1; time <= 11; time++) {
            boolean told = time >= 1 && time <= 9;
            for (int n : new int[] {1, 200}) {
                DUE.is("time " + time, x.best(0, 1, 1000 * time + n, 0), told ? 2 * time : BAD);
                DUE.is("its lines", x.best(0, 1, 1000 * time + n, 1), told ? 0b101 : BAD);
            }
            for (int n : new int[] {0, 201, 999}) DUE.is("ticks " + n, x.best(0, 1, 1000 * time + n, 0), BAD);
        }
    }

    private static void bestWhileOthersDie() {
        DUE.says("so that in told FLIGHTS (bits) for n TICKS it is never DEAD");
        for (int told = 0; told < 6; told++) {
            NarrowBox x = boxes(0, 0, 0, 0, 0, 0);
            for (int b = 0; b < 6; b++) program(x, b, b == told ? "?t=5:r0=40000" : "?t=1:r0=1/0");
            DUE.is("it dies later than the others", x.best(told, 1, 1006, 1), 1);
            DUE.is("not yet", x.best(told, 1, 1005, 1), 0);
            program(x, told, "?t=5:r0=1/0");
            DUE.is("nothing helps", x.best(told, 1, 1006, 1), NOT);
        }
    }

    /** Boxes that die in flights: the bits of a row tell in which flights its box does. */
    private static NarrowBox deaths(int... rows) {
        NarrowBox x = boxes(new int[rows.length]);
        for (int f = 1; f < 8; f++) x.flight();
        for (int f = 0; f < 8; f++) x.felt(10 * f, f, 0, 9);
        for (int b = 0; b < rows.length; b++) {
            StringBuilder text = new StringBuilder("r0=1");
            for (int f = 0; f < 8; f++) if ((rows[b] >> f & 1) == 1) text.append(";?f0=" + f + ":r0=1/0");
            program(x, b, text.toString());
        }
        return x;
    }

    private static void fewestIs(String what, NarrowBox x, int flights, int want) {
        DUE.is(what + ", as bits", x.fewest(flights, 1, 1), want);
        DUE.is(what + ", how many", x.fewest(flights, 1, 0), Integer.bitCount(want));
    }

    private static void fewestOf() {
        DUE.says("FEWEST FLIGHTS: of told bits the fewest that together make DEAD all BOXES that any of them does: how many, the first as bits.");
        fewestIs("one of all", deaths(255, 128, 129), 255, 128);
        fewestIs("two that part them", deaths(0b01, 0b10), 255, 0b11);
        fewestIs("six", deaths(1, 2, 4, 8, 16, 32), 255, 63);
        fewestIs("one instead of six", deaths(65, 66, 68, 72, 80, 96), 255, 64);
        fewestIs("two instead of three", deaths(0b01001, 0b01010, 0b10100), 255, 0b01100);
        fewestIs("the dearer way is not taken", deaths(0b0011, 0b0101, 0b1001), 255, 0b0001);
        fewestIs("none dies of the rest", deaths(1, 0, 1), 255, 1);
    }

    private static void fewestFirst() {
        DUE.says("how many, the first as bits");
        fewestIs("the first of eight", deaths(255), 255, 1);
        fewestIs("the first of two", deaths(0b11000000), 255, 64);
        fewestIs("the last alone", deaths(0b10000000), 255, 128);
        fewestIs("the first pair", deaths(0b0110, 0b1100, 0b1010), 255, 0b0110);
        fewestIs("a pair with a low one", deaths(0b0001, 0b1110), 255, 0b0011);
    }

    private static void fewestNone() {
        DUE.says("all BOXES that any of them does");
        fewestIs("none dies", deaths(0, 0), 255, 0);
        fewestIs("none is told", deaths(255, 255), 0, 0);
        fewestIs("no boxes", deaths(), 255, 0);
        NarrowBox x = deaths(1, 2);
        program(x, 0, "r0=1/(9-t)");
        DUE.is("not dead yet", x.fewest(1, 9, 1), 0);
        DUE.is("dead now", x.fewest(1, 10, 1), 1);
    }

    private static void fewestOneAfterTheOther() {
        DUE.says("together make DEAD all BOXES that any of them does");
        for (int first = 0; first < 6; first++) {
            NarrowBox x = boxes(0, 0, 0, 0, 0, 0);
            for (int f = 1; f < 8; f++) x.flight();
            for (int f = 0; f < 8; f++) x.felt(10 * f, f, 0, 9);
            for (int b = 0; b < 6; b++) {
                int ahead = (b - first + 6) % 6;
                program(x, b, "?(f0=" + ahead + ")|(f0=7):r0=1/(" + ahead + "-t)");
            }
            DUE.is("one kills all in six ticks", x.fewest(255, 6, 1), 128);
            DUE.is("each flight kills one", x.fewest(127, 6, 1), 63);
            DUE.is("five are dead in five", x.fewest(127, 5, 1), 31);
            DUE.is("one is dead in one", x.fewest(255, 1, 1), 1);
        }
    }

    private static void fewestOfTold() {
        DUE.says("of told bits the fewest");
        for (int f = 0; f < 8; f++) {
            fewestIs("the only one", deaths(255, 255), 1 << f, 1 << f);
            fewestIs("all but one", deaths(255), 255 - (1 << f), f == 0 ? 2 : 1);
            fewestIs("not told", deaths(1 << f), 255 - (1 << f), 0);
            fewestIs("told", deaths(1 << f), 255, 1 << f);
        }
        fewestIs("told ones alone", deaths(0b0001, 0b0010, 0b0111), 0b110, 0b010);
        NarrowBox x = deaths(1);
        for (int flights : new int[] {-1, 256, 511, Integer.MIN_VALUE, Integer.MAX_VALUE}) {
            for (int what = 0; what < 2; what++) DUE.is("no such flights", x.fewest(flights, 1, what), BAD);
        }
    }
}
