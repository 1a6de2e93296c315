import java.util.function.Supplier;

/** Objects on which much has been told, and all that can be seen of them. */
final class World {
    static final int BOXES = 4, FLIGHTS = 3, PAPERS = 4, TWIN = 1;

    private World() {
    }

    /** Four boxes, three flights, four papers; shelves with doubles, ints, a box, nothing, floats, doubles. */
    static Asked some() {
        Asked x = ofNone().get();
        x.tell("twin", TWIN, 3);
        return x;
    }

    /** The same, with a TWIN that is of none. */
    static Supplier<Asked> ofNone() {
        return World::madeOfNone;
    }

    private static Asked madeOfNone() {
        Asked x = new Asked();
        for (int kind : new int[] {0, 1, 2, 4}) x.tell("box", kind);
        x.program(0, "r0=f0+1;kr1=e;!s0=f1*3;?t>2:s1=f2;s3=1/(f0-9);ks2=e");
        x.program(1, "r0=i0;r1=i1*100");
        x.program(2, "r0=i0;s2=r0/2+i1");
        x.program(3, "r0=1000/(3-t);s0=t");
        x.tell("wire", 1, 0, 0, 0);
        x.tell("wire", 1, 1, 0, 1);
        x.tell("wire", 2, 0, 1, 3);
        x.tell("wire", 2, 1, 3, 0);
        x.tell("bits", 0, 2, 5);
        x.tell("bits", 3, 7, 20);
        x.tell("watch", 1, 1, 1);
        shelves(x);
        for (int f = 0; f < FLIGHTS; f++) {
            x.tell("flight");
            x.tell("felt", 10 * f, 5 + f, 2, 99);
        }
        x.tell("felt", 1, -3, 1, 40);
        x.tell("felt", 12, 7, -1, 99999);
        x.tell("feltRow", 11, 0, 0);
        x.tell("span", 0, -2, 3);
        x.tell("span", 11, -40, 5);
        x.tell("span", 12, 1, 1);
        x.tell("all", 0, 1, 4);
        papers(x);
        x.tell("act", 1, 3, 5);
        x.tell("run", 1, 6);
        x.feed("r7=");
        return x;
    }

    private static void shelves(Asked x) {
        x.tell("row", 0, 4, 3);
        x.tell("row", 1, 1, 3);
        x.tell("keep", 2, 1);
        x.tell("row", 4, 3, 2);
        x.tell("row", 5, 4, 2);
        x.tell("put", 0, 0, 10);
        x.tell("put", 0, 1, -7);
        x.tell("noNumber", 0, 2);
        for (int i = 0; i < 3; i++) x.tell("put", 1, i, 7 * i - 9);
        x.tell("put", 4, 1, 400);
        x.tell("put", 5, 0, 44);
        x.tell("put", 5, 1, 55);
    }

    private static void papers(Asked x) {
        x.tell("paper", 0, 0, 3, 9999);
        x.tell("paper", 0, 11, 0, 99);
        x.tell("paper", 1, 10, 105, 9900 + 1);
        x.tell("paper", 0, 2, 0, 9999);
        x.tell("sign", 4, 1, 1);
        x.tell("sign", 5, 1, 0);
        x.tell("sign", 5, 2, 3);
        x.tell("sign", 11, 3, 8);
    }

    /** Six boxes, eight flights, twenty papers, a tape of 160 bytes. */
    static Asked full() {
        Asked x = new Asked();
        for (int b = 0; b < 6; b++) x.tell("box", b);
        x.program(5, "r0=f0+1;kr1=e;!s0=f1*3");
        x.tell("twin", 1, 5);
        for (int f = 0; f < 8; f++) x.tell("flight");
        x.tell("felt", 72, 3, 1, 9);
        for (int p = 0; p < 20; p++) x.tell("paper", 0, 2, p, p == 0 ? 9999 : 9900 + p - 1);
        for (int person = 0; person < 12; person++) x.tell("sign", person, 19, person);
        x.feed(";".repeat(160));
        x.tell("row", 5, 0, 60);
        x.tell("put", 5, 59, 7);
        x.tell("run", 7, 200);
        return x;
    }

    /** Every answer that tells what an object holds, as one text. What it asks last changes the object. */
    static String seen(Asked x) {
        StringBuilder s = new StringBuilder();
        int boxes = (int) x.ask("count", 0);
        int flights = (int) x.ask("count", 1);
        int papers = (int) x.ask("count", 2);
        note(s, "counts", boxes, flights, papers, x.ask("count", 3), x.ask("count", 4));
        latest(x, s, boxes);
        seenPapers(x, s, papers);
        seenShelves(x, s);
        spansAndFlights(x, s, boxes, flights);
        seenBoxes(x, s, boxes);
        if (x.calls() > 512) throw new IllegalStateException("asked " + x.calls() + " times");
        return s.toString();
    }

    private static void note(StringBuilder s, String what, long... answers) {
        s.append(what);
        for (long a : answers) s.append(' ').append(a);
        s.append('\n');
    }

    private static void latest(Asked x, StringBuilder s, int boxes) {
        for (int i = 0; i < 6; i++) note(s, "trace " + i, x.ask("trace", i));
        for (int i = 0; i < 4; i++) note(s, "first " + i, x.ask("firstFault", i));
        for (int k = 0; k < 3; k++) note(s, "began " + k, x.ask("began", k));
        for (int b = 0; b < boxes; b++) {
            for (int what : new int[] {0, 1, 10, 12, 20, 31, 32}) note(s, "of run " + b + " " + what, x.ask("ofRun", b, what));
        }
    }

    private static void seenPapers(Asked x, StringBuilder s, int papers) {
        for (int p = papers > 8 ? papers - 8 : 0; p < papers; p++) {
            note(s, "paper " + p, x.ask("holds", 0, p), x.ask("holds", 1, p), x.ask("saw", p, 0), x.ask("sign", 11, p, 0));
        }
        note(s, "blind", x.ask("blind", 0), x.ask("blind", 1));
        for (int person = 0; person < 11; person++) {
            note(s, "signed " + person, x.ask("sign", person, papers - 1, 0), x.ask("sign", person, 1, 0));
        }
    }

    private static void seenShelves(Asked x, StringBuilder s) {
        for (int shelf = 0; shelf < 6; shelf++) {
            note(s, "shelf " + shelf, x.ask("taken", shelf, 0), x.ask("noNumber", shelf, -1));
            for (int i = 0; i < 4; i++) note(s, "element " + i, x.ask("element", shelf, i));
        }
        note(s, "the last of sixty", x.ask("element", 5, 59));
    }

    private static void spansAndFlights(Asked x, StringBuilder s, int boxes, int flights) {
        note(s, "worth", x.ask("worth", 1, 1, 8));
        x.ask("feed", 1, ';');
        note(s, "the tape is", x.ask("program", boxes - 1));
        x.program(boxes - 1, "!r0=f0;!r1=f1;!r2=f2");
        for (int k = 0; k < 3; k++) {
            for (int machine = 0; machine < 2; machine++) {
                note(s, "span " + k, x.ask("bounds", machine, boxes - 1, k, 0), x.ask("bounds", machine, boxes - 1, k, 1));
            }
        }
        for (int fk = 0; fk < 10 * flights; fk = fk % 10 == 2 ? fk + 8 : fk + 1) {
            note(s, "felt " + fk, x.ask("feels", fk, 1), x.ask("feels", fk, 199));
            x.ask("feltRow", fk, -1, 0);
            note(s, "told", x.ask("feels", fk, 0));
        }
    }

    private static void seenBoxes(Asked x, StringBuilder s, int boxes) {
        for (int b = 0; b < boxes - 1; b++) {
            for (int what = 0; what < 4; what++) {
                for (int l = 0; l < 3; l++) note(s, "line " + b + " " + l, x.ask("line", b, l, what));
            }
        }
        for (int b = 0; b < boxes; b++) {
            for (int slot : new int[] {0, 2, 7}) note(s, "bits " + b + " " + slot, x.ask("bits", b, slot, 9));
            for (int input = 0; input < 3; input++) note(s, "wire " + b + " " + input, x.ask("wire", b, input, -1, 0));
        }
    }

    /** Asks one call of a new object: its answer, and that it changed nothing. */
    static void refused(Due due, Supplier<Asked> maker, long want, String name, long... args) {
        Asked x = maker.get();
        String what = name + java.util.Arrays.toString(args);
        due.is(what, x.ask(name, args), want);
        due.isTrue(what + " changed nothing", seen(x).equals(seen(maker.get())));
    }
}
