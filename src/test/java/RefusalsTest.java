import java.util.function.Supplier;

/** Which refusal comes ahead of which, what is full, what has no answer; none of it changes anything. */
public final class RefusalsTest {
    private static final Due DUE = new Due();
    private static final Supplier<Asked> SOME = World::some, FULL = World::full;
    private static final long BAD = NarrowBox.BAD, NOT = NarrowBox.NOT, STATE = NarrowBox.STATE, BIG = NarrowBox.BIG;
    private static final long VOID = NarrowBox.VOID;
    private static final int NOTHING = -11, KIND = -12, PLACE = -13, SIZE = -14;

    public static void main(String[] args) {
        full();
        badAheadOfFull();
        badAheadOfState();
        badAheadOfBig();
        badAheadOfNot();
        state();
        big();
        not();
        shelves();
        shift();
        nothingThereYet();
        asking();
        DUE.end();
    }

    private static void refused(Supplier<Asked> maker, long want, String name, long... args) {
        World.refused(DUE, maker, want, name, args);
    }

    private static void full() {
        DUE.says("FULL (-3)");
        refused(FULL, NarrowBox.FULL, "feed", 1, 'x');
        refused(FULL, NarrowBox.FULL, "feed", 4, 'x');
        refused(FULL, NarrowBox.FULL, "box", 0);
        refused(FULL, NarrowBox.FULL, "box", 6);
        refused(FULL, NarrowBox.FULL, "flight");
        refused(FULL, NarrowBox.FULL, "paper", 0, 0, 0, 9999);
        refused(FULL, NarrowBox.FULL, "paper", 1, 15, 799, 1918);
        for (int left = 1; left <= 3; left++) {
            int fed = 160 - left;
            Supplier<Asked> nearly = () -> {
                Asked x = World.some();
                x.feed("#".repeat(fed - 3));
                return x;
            };
            refused(nearly, NarrowBox.FULL, "feed", left + 1, 0x3b3b3b3b);
            Asked x = nearly.get();
            DUE.is("what there is room for", x.ask("feed", left, 0), 160);
        }
    }

    private static void badAheadOfFull() {
        DUE.says("Answers, of several the one named first: BAD (-1): no such number, or it is not as said; NOT (-2): as told; FULL (-3)");
        refused(FULL, BAD, "feed", 0, 0);
        refused(FULL, BAD, "feed", 5, 0);
        refused(FULL, BAD, "box", 7);
        refused(FULL, BAD, "box", -1);
        refused(FULL, BAD, "paper", 2, 10, 1, 9999);
        refused(FULL, BAD, "paper", 0, 3, 0, 9999);
        refused(FULL, BAD, "paper", 0, 0, 100000, 9999);
        refused(FULL, BAD, "paper", 0, 0, 0, 2099);
        refused(FULL, BAD, "paper", 0, 0, 0, 9920);
        refused(FULL, BAD, "paper", 0, 0, 0, -1);
    }

    private static void badAheadOfState() {
        DUE.says("BAD; STATE: it is of none.");
        Supplier<Asked> untold = () -> {
            Asked x = World.some();
            x.tell("row", 3, 4, 1);
            return x;
        };
        Supplier<Asked> ofNone = World.ofNone();
        refused(ofNone, STATE, "worth", 1, 0, 5);
        refused(ofNone, STATE, "worth", 1, 1, 200);
        refused(ofNone, BAD, "worth", 1, 8, 5);
        refused(ofNone, BAD, "worth", 1, -1, 5);
        refused(ofNone, BAD, "worth", 1, 1, 0);
        refused(ofNone, BAD, "worth", 1, 1, 201);
        refused(ofNone, BAD, "worth", 0, 1, 5);
        refused(ofNone, BAD, "worth", 2, 1, 5);
        DUE.says("BAD; STATE: that one did.");
        refused(untold, STATE, "sign", 5, 1, 0);
        refused(untold, STATE, "sign", 5, 1, 15);
        refused(untold, BAD, "sign", 5, 1, 16);
        refused(untold, BAD, "sign", 5, 1, -1);
    }

    private static Supplier<Asked> wide(int greatest) {
        return () -> {
            Asked x = World.some();
            for (int k = 0; k < 3; k++) x.tell("span", 10 + k, 0, k == 0 ? greatest : 0);
            return x;
        };
    }

    private static void badAheadOfBig() {
        DUE.says("how many ahead of the first. BAD, BIG; NOT.");
        refused(wide(2000), BAD, "all", 1, 3, 5);
        refused(wide(2000), BAD, "all", 1, -1, 5);
        refused(wide(2000), BAD, "all", 1, 0, 0);
        refused(wide(2000), BAD, "all", 1, 0, 201);
        refused(wide(2000), BAD, "all", 2, 0, 1);
    }

    private static void badAheadOfNot() {
        DUE.says("BAD; NOT. tn: 1000 times the TIME of each, and n.");
        refused(SOME, NOT, "best", 3, 1, 1005, 0);
        refused(SOME, NOT, "best", 3, 1, 1005, 1);
        refused(SOME, BAD, "best", 3, 1, 1005, 2);
        refused(SOME, BAD, "best", 3, 8, 1005, 0);
        refused(SOME, BAD, "best", 3, 1, 1201, 0);
        refused(SOME, BAD, "best", 3, 1, 10005, 0);
        DUE.says("NOT: none. BAD (also before any).");
        Supplier<Asked> alive = () -> {
            Asked x = World.some();
            x.tell("run", 0, 2);
            return x;
        };
        for (int what = 0; what < 4; what++) refused(alive, NOT, "firstFault", what);
        refused(alive, BAD, "firstFault", 4);
        refused(alive, BAD, "firstFault", -1);
        Supplier<Asked> notRun = () -> {
            Asked x = new Asked();
            x.tell("box", 0);
            x.tell("flight");
            return x;
        };
        for (int what = -1; what <= 4; what++) refused(notRun, BAD, "firstFault", what);
    }

    private static void state() {
        DUE.says("how many PERSONS signed it. BAD; STATE: that one did.");
        refused(SOME, STATE, "sign", 4, 1, 1);
        refused(SOME, STATE, "sign", 5, 2, 0);
        refused(SOME, STATE, "sign", 11, 3, 8);
        refused(FULL, STATE, "sign", 0, 19, 0);
        refused(FULL, STATE, "sign", 11, 19, (1 << 20) - 1);
    }

    private static void big() {
        DUE.says("at most 2000 rows of beginnings of all three, else BIG");
        refused(wide(2000), BIG, "all", 1, 0, 1);
        refused(wide(99999), BIG, "all", 1, 0, 200);
        Asked x = wide(1999).get();
        DUE.isTrue("2000 of them", x.ask("all", 1, 0, 1) != BIG);
    }

    private static void not() {
        DUE.says("NOT: none.");
        refused(SOME, NOT, "all", 0, 0, 3);
        refused(SOME, NOT, "all", 1, 2, 1);
        DUE.says("NOT: never.");
        refused(SOME, NOT, "needed", 3, 0, 1);
        refused(SOME, NOT, "needed", 2, 0, 50);
    }

    private static void shelves() {
        DUE.says("The host's REFUSALS: -11 nothing is there where something is wanted; -12 it is of another kind; -13 a place that is not there; -14 a size below 0.");
        for (int i : new int[] {-1, 0, 3}) {
            refused(SOME, NOTHING, "put", 3, i, 5);
            refused(SOME, NOTHING, "noNumber", 3, i);
            refused(SOME, KIND, "put", 2, i, 5);
            refused(SOME, KIND, "noNumber", 2, i);
            refused(SOME, KIND, "noNumber", 1, i);
            refused(SOME, Long.MIN_VALUE, "element", 3, i);
            refused(SOME, Long.MIN_VALUE, "element", 2, i);
            refused(SOME, BAD, "put", 6, i, 5);
            refused(SOME, BAD, "noNumber", -1, i);
        }
        refused(SOME, PLACE, "put", 1, 3, 5);
        refused(SOME, PLACE, "put", 1, -1, 5);
        refused(SOME, PLACE, "noNumber", 0, 3);
        refused(SOME, PLACE, "noNumber", 4, -1);
        refused(SOME, NOTHING, "taken", 3, 0);
        refused(SOME, BAD, "taken", 3, 7);
        refused(SOME, BAD, "taken", 3, -1);
        refused(SOME, KIND, "taken", 0, 0);
        refused(SOME, KIND, "taken", 2, 2);
        refused(SOME, BAD, "taken", 2, 7);
        refused(SOME, BAD, "keep", 6, 0);
        refused(SOME, BAD, "keep", 0, 4);
        refused(SOME, SIZE, "row", 0, 4, -1);
        refused(SOME, SIZE, "row", 2, 0, -1);
        refused(SOME, BAD, "row", 6, 0, -1);
        refused(SOME, BAD, "row", 0, 5, -1);
        refused(SOME, BAD, "row", 0, -1, -1);
        refused(SOME, KIND, "feltRow", 0, 1, 0);
        refused(SOME, KIND, "feltRow", 11, 2, -1);
        refused(SOME, BAD, "feltRow", 3, 1, 0);
        refused(SOME, BAD, "feltRow", 30, 2, 0);
        for (int sort = 0; sort < 3; sort++) {
            int of = sort;
            Supplier<Asked> whole = () -> {
                Asked x = World.some();
                x.tell("row", 1, of, 2);
                return x;
            };
            refused(whole, KIND, "feltRow", 11, 1, 0);
            refused(whole, KIND, "noNumber", 1, 0);
            refused(whole, KIND, "noNumber", 1, 9);
            refused(whole, KIND, "shift", 1, 0, 0, 0, 1);
        }
    }

    private static void shift() {
        DUE.says("BAD, -11 (either), -12 (no ROWS, or of unlike sorts), -13 (n below 0, too).");
        refused(SOME, BAD, "shift", 6, 0, 3, 0, 1);
        refused(SOME, BAD, "shift", 3, 0, 6, 0, 1);
        refused(SOME, BAD, "shift", -1, 0, 2, 0, -1);
        refused(SOME, NOTHING, "shift", 3, 0, 3, 0, 1);
        refused(SOME, NOTHING, "shift", 3, 0, 2, 0, 1);
        refused(SOME, NOTHING, "shift", 2, 0, 3, 0, 1);
        refused(SOME, NOTHING, "shift", 0, 9, 3, 0, -1);
        refused(SOME, NOTHING, "shift", 3, 0, 0, 9, -1);
        refused(SOME, KIND, "shift", 2, 0, 2, 0, 1);
        refused(SOME, KIND, "shift", 2, 0, 0, 0, -1);
        refused(SOME, KIND, "shift", 0, 9, 2, 0, 1);
        refused(SOME, KIND, "shift", 0, 0, 1, 0, 1);
        refused(SOME, KIND, "shift", 0, 9, 4, 9, -1);
        refused(SOME, KIND, "shift", 4, 0, 5, 0, 0);
        refused(SOME, PLACE, "shift", 0, 0, 5, 0, -1);
        refused(SOME, PLACE, "shift", 0, 0, 5, 0, 3);
        refused(SOME, PLACE, "shift", 5, 0, 0, 0, 3);
        refused(SOME, PLACE, "shift", 0, 4, 5, 0, 0);
        refused(SOME, PLACE, "shift", 0, 0, 5, 3, 0);
        refused(SOME, PLACE, "shift", 0, -1, 5, 0, 0);
        refused(SOME, PLACE, "shift", 0, 0, 5, -1, 0);
        refused(SOME, PLACE, "shift", 0, 1, 0, 0, Integer.MAX_VALUE);
    }

    /** A new object: what each call answers when there is nothing yet, and that nothing comes of it. */
    private static void nothingThereYet() {
        DUE.says("No boxes, no flights.");
        Object[][] bad = {{"program", 0}, {"bits", 0, 0, 16}, {"line", 0, 0, 0}, {"watch", 0, 0, 0}, {"felt", 0, 0, 0, 0},
            {"feltRow", 0, 0, 0}, {"run", 0, 1}, {"firstFault", 0}, {"all", 0, 0, 1}, {"gaps", 0, 0}, {"like", 0, 0},
            {"far", 0, 0, 1, 1000}, {"twin", 0, 0}, {"worth", 0, 0, 1}, {"needed", 0, 0, 1}, {"best", 0, 0, 1001, 0},
            {"fewest", 1, 1, 0}, {"paper", 0, 10, 0, 9999}, {"paper", 1, 10, 1, 9999}, {"paper", 0, 0, 0, 0},
            {"holds", 0, 0}, {"sign", 0, 0, 0}, {"saw", 0, 0}, {"trace", 0}, {"keep", 0, 0}};
        for (Object[] b : bad) isEmptyAfter(BAD, b);
        Object[][] none = {{"wire", 0, 0, 0, 0}, {"wire", 0, 0, -1, 0}, {"feels", 0, 0}, {"ofRun", 0, 0}, {"began", 0},
            {"bounds", 0, 0, 0, 0}};
        for (Object[] n : none) isEmptyAfter(VOID, n);
        for (int shelf = 0; shelf < 6; shelf++) {
            isEmptyAfter(NOTHING, "put", shelf, 0, 1);
            isEmptyAfter(NOTHING, "noNumber", shelf, 0);
            isEmptyAfter(NOTHING, "taken", shelf, 0);
            isEmptyAfter(NOTHING, "shift", shelf, 0, shelf, 0, 0);
            isEmptyAfter(Long.MIN_VALUE, "element", shelf, 0);
        }
        Object[][] zero = {{"like", 0, -1}, {"like", 1, -1}, {"fewest", 0, 1, 0}, {"fewest", 0, 200, 1}, {"blind", 0},
            {"blind", 1}, {"act", 0, 0, 7}, {"count", 0}, {"count", 1}, {"count", 2}, {"count", 3}, {"count", 4}};
        for (Object[] z : zero) isEmptyAfter(0, z);
    }

    private static void isEmptyAfter(long want, Object... call) {
        long[] args = new long[call.length - 1];
        for (int i = 0; i < args.length; i++) args[i] = ((Integer) call[i + 1]).longValue();
        Asked x = new Asked();
        DUE.is("new: " + java.util.Arrays.toString(call), x.ask((String) call[0], args), want);
        for (int what = 0; what < 5; what++) DUE.is("still none of " + what, x.ask("count", what), 0);
        for (int shelf = 0; shelf < 6; shelf++) DUE.is("shelf " + shelf, x.ask("taken", shelf, 0), NOTHING);
        DUE.is("the first box", x.ask("box", 0), 0);
        DUE.is("the first flight", x.ask("flight"), 0);
        DUE.is("the first paper", x.ask("paper", 0, 0, 0, 9999), 0);
        DUE.is("no run yet", x.ask("firstFault", 0), BAD);
        DUE.is("none found yet", x.ask("began", 0), VOID);
    }

    /** Calls that only ask, answered: they leave all as it was. */
    private static void asking() {
        DUE.says("What is answered so changes nothing.");
        long[][] asked = {{0, 1, 7}, {0, 2, 200}, {1, 0, 3}};
        for (long[] a : asked) {
            leavesAll("far", a[0], a[1], a[2], 1000);
            leavesAll("far", a[0], a[1], a[2], 9199);
            leavesAll("needed", a[0], a[1], a[2]);
            leavesAll("best", a[0], 3, 2000 + a[2], a[0]);
            leavesAll("fewest", 7, a[2], a[0]);
            leavesAll("worth", 1, 7, a[2]);
        }
        for (int machine = 0; machine < 2; machine++) {
            leavesAll("gaps", machine, 2);
            leavesAll("like", machine, 0);
            leavesAll("bounds", machine, 0, 2, 1);
            leavesAll("holds", machine, 2);
            leavesAll("blind", machine);
        }
        leavesAll("line", 0, 0, 3);
        leavesAll("feels", 11, 4);
        leavesAll("ofRun", 3, 20);
        leavesAll("firstFault", 0);
        leavesAll("began", 2);
        leavesAll("saw", 1, 0);
        leavesAll("trace", 4);
        leavesAll("element", 0, 2);
        leavesAll("taken", 2, 1);
        leavesAll("count", 4);
    }

    private static void leavesAll(String name, long... args) {
        Asked x = World.some();
        long answer = x.ask(name, args);
        DUE.isTrue(name + " left all as it was, answering " + answer, World.seen(x).equals(World.seen(World.some())));
    }
}
