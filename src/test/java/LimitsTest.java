import java.util.function.Supplier;

/**
 * Of every argument of every call the last number that is still taken and the first that is not, on both sides; and
 * that a refused call changes nothing. One row tells the call, the arguments of a good one, which argument is
 * tried, and the least and the greatest that is taken.
 */
public final class LimitsTest {
    private static final Due DUE = new Due();
    private static final Supplier<Asked> SOME = World::some, FULL = World::full;
    private static final long BAD = NarrowBox.BAD, VOID = NarrowBox.VOID;
    private static final int NO_END = Integer.MAX_VALUE, NO_START = Integer.MIN_VALUE;

    public static void main(String[] args) {
        boxes();
        boxesWhenAllAreThere();
        flights();
        runs();
        spans();
        faults();
        watches();
        papers();
        papersWhenAllAreThere();
        acts();
        shelves();
        places();
        DUE.end();
    }

    private static long[] good(long... args) {
        return args;
    }

    private static long[] with(long[] args, int at, long v) {
        long[] changed = args.clone();
        changed[at] = v;
        return changed;
    }

    private static void taken(Supplier<Asked> maker, long refusal, String name, long... args) {
        long answer = maker.get().ask(name, args);
        DUE.isTrue(name + java.util.Arrays.toString(args) + " is taken", answer != refusal);
    }

    /** Tries one argument at its ends, beyond them, and far beyond them. */
    private static void limit(Supplier<Asked> maker, long refusal, String name, long[] good, int at, int least, int greatest) {
        taken(maker, refusal, name, with(good, at, least));
        taken(maker, refusal, name, with(good, at, greatest));
        if (least != NO_START) {
            World.refused(DUE, maker, refusal, name, with(good, at, least - 1));
            World.refused(DUE, maker, refusal, name, with(good, at, NO_START));
        }
        if (greatest != NO_END) {
            World.refused(DUE, maker, refusal, name, with(good, at, greatest + 1));
            World.refused(DUE, maker, refusal, name, with(good, at, NO_END));
        }
    }

    private static void limit(long refusal, String name, long[] good, int at, int least, int greatest) {
        limit(SOME, refusal, name, good, at, least, greatest);
    }

    /** Tries an argument that is made of two numbers. */
    private static void each(long refusal, String name, long[] good, int at, int[] taken, int[] refused) {
        for (int v : taken) taken(SOME, refusal, name, with(good, at, v));
        for (int v : refused) World.refused(DUE, SOME, refusal, name, with(good, at, v));
        World.refused(DUE, SOME, refusal, name, with(good, at, NO_START));
        World.refused(DUE, SOME, refusal, name, with(good, at, NO_END));
    }

    private static void boxes() {
        limit(BAD, "feed", good(1, 'x'), 0, 1, 4);
        limit(BAD, "feed", good(4, 0), 1, NO_START, NO_END);
        limit(BAD, "box", good(0), 0, 0, 6);
        limit(BAD, "program", good(0), 0, 0, World.BOXES - 1);
        limit(BAD, "bits", good(0, 0, 16), 0, 0, World.BOXES - 1);
        limit(BAD, "bits", good(0, 0, 16), 1, 0, 7);
        limit(BAD, "bits", good(0, 0, 16), 2, 2, 20);
        limit(VOID, "wire", good(0, 0, 0, 0), 0, 0, World.BOXES - 1);
        limit(VOID, "wire", good(0, 0, 0, 0), 1, 0, 3);
        limit(VOID, "wire", good(0, 0, 0, 0), 2, -1, World.BOXES - 1);
        limit(VOID, "wire", good(0, 0, 0, 0), 3, 0, 3);
        limit(VOID, "wire", good(0, 0, -1, 0), 3, NO_START, NO_END);
        for (int what = 0; what < 4; what++) {
            limit(BAD, "line", good(3, 0, what), 0, 0, World.BOXES - 1);
            limit(BAD, "line", good(0, 0, what), 1, 0, 5);
            limit(BAD, "line", good(3, 1, what), 1, 0, 1);
        }
        limit(BAD, "line", good(0, 0, 0), 2, 0, 3);
        limit(BAD, "watch", good(0, 0, 1), 0, 0, World.BOXES - 1);
        limit(BAD, "watch", good(0, 0, 1), 1, 0, 5);
        limit(BAD, "watch", good(2, 0, 1), 1, 0, 1);
        limit(BAD, "watch", good(0, 0, 1), 2, 0, 1);
    }

    private static void boxesWhenAllAreThere() {
        limit(FULL, BAD, "program", good(0), 0, 0, 5);
        limit(FULL, BAD, "bits", good(0, 0, 16), 0, 0, 5);
        limit(FULL, VOID, "wire", good(0, 0, 0, 0), 0, 0, 5);
        limit(FULL, VOID, "wire", good(0, 0, 0, 0), 2, -1, 5);
        limit(FULL, BAD, "gaps", good(0, 0), 1, 0, 5);
        limit(FULL, BAD, "far", good(0, 0, 5, 1000), 0, 0, 5);
        limit(FULL, BAD, "far", good(0, 0, 5, 1000), 1, 0, 7);
        limit(FULL, BAD, "best", good(0, 0, 1005, 0), 1, 0, 255);
        limit(FULL, BAD, "fewest", good(0, 5, 0), 0, 0, 255);
        limit(FULL, BAD, "worth", good(1, 0, 5), 1, 0, 255);
        limit(FULL, BAD, "keep", good(0, 0), 1, -1, 5);
        limit(FULL, VOID, "ofRun", good(0, 0), 0, 0, 5);
        limit(FULL, BAD, "run", good(0, 1), 0, 0, 7);
        limit(FULL, VOID, "feels", good(72, 0), 0, 70, 72);
        limit(FULL, BAD, "felt", good(72, 0, 0, 0), 0, 70, 72);
    }

    private static void flights() {
        int[] felts = {0, 1, 2, 10, 12, 20, 22};
        int[] none = {-1, 3, 9, 13, 19, 23, 29, 30, 32};
        each(BAD, "felt", good(0, 0, 0, 0), 0, felts, none);
        limit(BAD, "felt", good(0, 0, 0, 0), 1, -99999, 99999);
        limit(BAD, "felt", good(0, 0, 0, 0), 2, -999, 999);
        limit(BAD, "felt", good(0, 0, 0, 0), 3, 0, 99999);
        each(BAD, "feltRow", good(0, 0, 0), 0, felts, none);
        limit(BAD, "feltRow", good(0, 0, 0), 1, -1, 5);
        for (int shelf : new int[] {-1, 0, 3, 4, 5}) limit(BAD, "feltRow", good(0, shelf, 0), 2, NO_START, NO_END);
        each(VOID, "feels", good(0, 0), 0, felts, none);
        limit(VOID, "feels", good(0, 0), 1, 0, 199);
        limit(VOID, "feels", good(11, 0), 1, 0, 199);
    }

    private static void runs() {
        limit(BAD, "run", good(0, 1), 0, 0, World.FLIGHTS - 1);
        limit(BAD, "run", good(0, 1), 1, 1, 200);
        limit(VOID, "ofRun", good(0, 0), 0, 0, World.BOXES - 1);
        each(VOID, "ofRun", good(0, 0), 1, new int[] {0, 7, 10, 13, 20, 23, 30, 31, 32},
            new int[] {-1, 8, 9, 14, 15, 19, 24, 25, 29, 33, 34, 40});
        limit(BAD, "firstFault", good(0), 0, 0, 3);
    }

    private static void spans() {
        int[] felts = {0, 1, 2, 10, 11, 12};
        each(BAD, "span", good(0, 0, 0), 0, felts, new int[] {-1, 3, 4, 9, 13, 19, 20, 22});
        limit(BAD, "span", good(0, 0, 5), 1, -99999, 5);
        limit(BAD, "span", good(0, -5, 0), 2, -5, 99999);
        limit(BAD, "span", good(0, 99999, 99999), 1, -99999, 99999);
        limit(BAD, "span", good(0, -99999, -99999), 2, -99999, 99999);
        limit(BAD, "all", good(0, 0, 1), 0, 0, 1);
        limit(BAD, "all", good(0, 0, 1), 1, 0, World.FLIGHTS - 1);
        limit(BAD, "all", good(0, 0, 1), 2, 1, 200);
        limit(VOID, "began", good(0), 0, 0, 2);
        limit(BAD, "gaps", good(0, 0), 0, 0, 1);
        limit(BAD, "gaps", good(0, 0), 1, 0, World.BOXES - 1);
        limit(VOID, "bounds", good(0, 0, 0, 0), 0, 0, 1);
        limit(VOID, "bounds", good(1, 0, 0, 0), 1, 0, World.BOXES - 2);
        limit(VOID, "bounds", good(0, 0, 0, 0), 2, 0, 5);
        limit(VOID, "bounds", good(0, 1, 0, 0), 2, 0, 1);
        limit(VOID, "bounds", good(0, 0, 0, 0), 3, 0, 1);
        limit(BAD, "like", good(0, -1), 0, 0, 1);
        limit(BAD, "like", good(0, 0), 1, -1, 1);
        limit(BAD, "like", good(1, 0), 1, -1, 1);
    }

    private static void faults() {
        limit(BAD, "far", good(0, 0, 5, 1000), 0, 0, World.BOXES - 1);
        limit(BAD, "far", good(0, 0, 5, 1000), 1, 0, World.FLIGHTS - 1);
        limit(BAD, "far", good(0, 0, 5, 1000), 2, 1, 200);
        each(BAD, "far", good(0, 0, 5, 1000), 3, new int[] {1000, 1005, 1199, 2000, 2199, 9000, 9199},
            new int[] {-1000, -1, 0, 1, 199, 200, 999, 1200, 1999, 2200, 8999, 9200, 9999, 10000, 10199});
        limit(BAD, "twin", good(1, 0), 0, World.TWIN, World.TWIN);
        limit(BAD, "twin", good(1, 0), 1, 0, 0);
        limit(BAD, "twin", good(1, 2), 1, 2, World.BOXES - 1);
        limit(BAD, "worth", good(1, 0, 5), 0, World.TWIN, World.TWIN);
        limit(BAD, "worth", good(1, 0, 5), 1, 0, 7);
        limit(BAD, "worth", good(1, 7, 5), 2, 1, 200);
        limit(BAD, "worth", good(1, 0, 5), 2, 1, 200);
        limit(BAD, "needed", good(0, 0, 5), 0, 0, World.BOXES - 1);
        limit(BAD, "needed", good(0, 0, 5), 1, 0, World.FLIGHTS - 1);
        limit(BAD, "needed", good(0, 0, 5), 2, 1, 200);
        limit(BAD, "needed", good(2, 0, 5), 2, 1, 200);
    }

    private static void watches() {
        limit(BAD, "best", good(0, 0, 1005, 0), 0, 0, World.BOXES - 1);
        limit(BAD, "best", good(0, 0, 1005, 0), 1, 0, 7);
        each(BAD, "best", good(0, 1, 1005, 0), 2, new int[] {1001, 1200, 2001, 2200, 9001, 9200},
            new int[] {-1001, -1, 0, 1, 200, 999, 1000, 1201, 1999, 2000, 2201, 9000, 9201, 9999, 10000, 10001, 10200});
        limit(BAD, "best", good(0, 0, 1005, 0), 3, 0, 1);
        limit(BAD, "fewest", good(7, 5, 0), 0, 0, 7);
        limit(BAD, "fewest", good(7, 5, 0), 1, 1, 200);
        limit(BAD, "fewest", good(7, 5, 0), 2, 0, 1);
    }

    private static void papers() {
        limit(BAD, "paper", good(0, 10, 105, 9999), 0, 0, 1);
        limit(BAD, "paper", good(0, 0, 5, 9999), 0, 0, 0);
        each(BAD, "paper", good(0, 0, 5, 9999), 1, new int[] {0, 1, 2, 10, 11, 12, 13}, new int[] {-1, 3, 4, 9, 14, 20});
        each(BAD, "paper", good(1, 10, 5, 9999), 1, new int[] {10, 11, 12, 13}, new int[] {-1, 0, 2, 3, 9, 14, 20});
        for (int k = 0; k < 3; k++) limit(BAD, "paper", good(0, k, 0, 9999), 2, 0, 99999);
        limit(BAD, "paper", good(0, 13, 0, 9999), 2, NO_START, NO_END);
        each(BAD, "paper", good(1, 10, 1, 9999), 2, new int[] {1, 99, 101, 199, 201, 299},
            new int[] {-1, -101, 0, 100, 200, 300, 301, 399});
        each(BAD, "paper", good(0, 0, 0, 9999), 3, new int[] {9999, 99, 399, 9900, 9903, 0, 303, 3},
            new int[] {-1, -99, 4, 98, 404, 400, 498, 499, 9904, 9998, 9800, 9899, 10000, 10099});
        limit(BAD, "holds", good(0, 0), 0, 0, 1);
        limit(BAD, "holds", good(0, 0), 1, 0, World.PAPERS - 1);
        limit(BAD, "sign", good(0, 0, 0), 0, 0, 11);
        limit(BAD, "sign", good(0, 0, 0), 1, 0, World.PAPERS - 1);
        limit(BAD, "sign", good(0, 0, 0), 2, 0, 15);
        limit(BAD, "saw", good(0, 0), 0, 0, World.PAPERS - 1);
        limit(BAD, "saw", good(0, 0), 1, 0, World.PAPERS - 1);
        limit(BAD, "blind", good(0), 0, 0, 1);
    }

    private static void papersWhenAllAreThere() {
        limit(FULL, BAD, "holds", good(0, 0), 1, 0, 19);
        limit(FULL, BAD, "sign", good(0, 0, 0), 1, 0, 19);
        limit(FULL, BAD, "sign", good(0, 0, 0), 2, 0, (1 << 20) - 1);
        limit(FULL, BAD, "saw", good(0, 0), 0, 0, 19);
        limit(FULL, BAD, "saw", good(0, 0), 1, 0, 19);
    }

    private static void acts() {
        for (int[] none : new int[][] {{-1, 0}, {4, 0}, {NO_START, 0}, {NO_END, 0}, {0, -1}, {0, 4}, {0, NO_START}, {0, NO_END}}) {
            Asked x = World.some();
            DUE.is("no such box or act", x.ask("act", none[0], none[1], 7), 0);
            DUE.is("none ran", x.ask("count", 4), 0);
            DUE.is("no trace", x.ask("trace", 0), BAD);
        }
        for (int[] one : new int[][] {{0, 0}, {3, 0}, {0, 3}, {3, 3}}) {
            Asked x = World.some();
            x.ask("act", one[0], one[1], 7);
            DUE.isTrue("one ran", x.ask("count", 4) > 0 && x.ask("trace", 0) > 0);
        }
        for (int act = 0; act < 4; act++) limit(1234567, "act", good(1, act, 0), 2, NO_START, NO_END);
        limit(BAD, "trace", good(0), 0, 0, 4);
        limit(BAD, "count", good(0), 0, 0, 4);
    }

    private static void shelves() {
        limit(BAD, "keep", good(0, 0), 0, 0, 5);
        limit(BAD, "keep", good(0, 0), 1, -1, World.BOXES - 1);
        limit(BAD, "row", good(0, 0, 0), 0, 0, 5);
        limit(BAD, "row", good(0, 0, 0), 1, 0, 4);
        for (int sort = 0; sort < 5; sort++) {
            for (int n : new int[] {0, 1, 60}) taken(SOME, BAD, "row", 3, sort, n);
            for (int n : new int[] {61, 62, NO_END}) World.refused(DUE, SOME, BAD, "row", 0, sort, n);
            for (int n : new int[] {-1, -61, NO_START}) World.refused(DUE, SOME, -14, "row", 0, sort, n);
        }
        limit(BAD, "put", good(0, 0, 1), 0, 0, 5);
        limit(BAD, "noNumber", good(0, 0), 0, 0, 5);
        for (int shelf : new int[] {-1, 6, NO_START, NO_END}) {
            World.refused(DUE, SOME, Long.MIN_VALUE, "element", shelf, 0);
        }
        limit(BAD, "shift", good(0, 0, 0, 0, 1), 0, 0, 5);
        limit(BAD, "shift", good(0, 0, 0, 0, 1), 2, 0, 5);
        limit(BAD, "taken", good(0, 0), 0, 0, 5);
        limit(BAD, "taken", good(2, 0), 1, 0, 6);
    }

    /** Places in rows: one that is not there is no BAD. */
    private static void places() {
        limit(-13, "put", good(0, 0, 7), 1, 0, 2);
        limit(-13, "put", good(4, 0, 7), 1, 0, 1);
        limit(-13, "noNumber", good(0, 0), 1, 0, 2);
        limit(-13, "noNumber", good(4, 0), 1, 0, 1);
        limit(Long.MIN_VALUE, "element", good(1, 0), 1, 0, 2);
        limit(Long.MIN_VALUE, "element", good(4, 0), 1, 0, 1);
        for (int n = 0; n <= 2; n++) {
            limit(-13, "shift", good(0, 0, 5, 0, n), 1, 0, 3 - n);
            limit(-13, "shift", good(0, 0, 5, 0, n), 3, 0, 2 - n);
            limit(-13, "shift", good(5, 0, 0, 0, n), 1, 0, 2 - n);
            limit(-13, "shift", good(5, 0, 0, 0, n), 3, 0, 3 - n);
            limit(-13, "shift", good(0, n, 0, 0, 0), 4, 0, 3 - n);
            limit(-13, "shift", good(0, 0, 0, n, 0), 4, 0, 3 - n);
        }
        limit(-13, "shift", good(0, 3, 0, 3, 0), 4, 0, 0);
        limit(-13, "shift", good(0, 0, 5, 2, 0), 4, 0, 0);
    }
}
