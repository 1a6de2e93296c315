import java.lang.reflect.Method;
import java.util.Arrays;
import java.util.HashMap;
import java.util.Map;
import java.util.Random;

/** Long runs of calls, drawn by fixed seeds, answered by NarrowBox and by the plain Model alike. */
public final class ModelTest {
    private static final int[] WILD = {Integer.MIN_VALUE, Integer.MAX_VALUE, -2, -1, 0, 1, 6, 7, 8, 12, 19, 20, 60, 61,
        99, 160, 199, 200, 201, 999, 1000, 9999, 10000, 99999, 100000, -99999, -100000, 1 << 20, 1 << 30};

    /** What later calls of an object answer is free. */
    private static final int MOST_CALLS = 512;

    private static final String[] LIVELY = {"r0=r0+f0", "r0=r0*2+f1", "s0=r0", "s1=r1*f2", "r1=i0+i1", "r1=r1+i2*3",
        "r2=1000/(t-5)", "r2=r0%(f1-t)", "?t>4:s0=i0", "?i1:r3=i1-1", "kr7=r7+e", "k?e=1:s1=e*100", "ks0=-e",
        "!r1=r1*3+7", "!s1=f0*f1", "r3=f0*f1*f2", "r4=t*t", "s0=t", "k!r5=r5*9+e", "r6=r5*r5*r5", "r2=i3", "s1=i0",
        "k?e>1:r0=0", "kr6=1/(e-4)", "r3=r3-f1", "r0=(t<9)*99999"};

    private final Random random;
    private final Due due;
    private final int run;
    private final NarrowBox box = new NarrowBox();
    private final Model model = new Model();
    private final Map<String, Method> methods = new HashMap<>();
    private int calls;

    private ModelTest(int run, Due due) {
        this.run = run;
        this.due = due;
        random = new Random(run * 7919L + 17);
    }

    public static void main(String[] args) throws Exception {
        int from = args.length > 0 ? Integer.parseInt(args[0]) : 0;
        int to = args.length > 1 ? Integer.parseInt(args[1]) : 400;
        Due due = new Due();
        for (int run = from; run < to; run++) {
            new ModelTest(run, due).goOn();
        }
        due.end();
    }

    private void call(String name, Object... args) throws Exception {
        if (calls == MOST_CALLS) return;
        Method ours = methods.get(name);
        Method theirs = methods.get("model " + name);
        if (ours == null) {
            for (Method m : NarrowBox.class.getMethods()) {
                if (m.getName().equals(name)) ours = m;
            }
            theirs = Model.class.getDeclaredMethod(name, ours.getParameterTypes());
            methods.put(name, ours);
            methods.put("model " + name, theirs);
        }
        long want = ((Number) theirs.invoke(model, args)).longValue();
        long got = ((Number) ours.invoke(box, args)).longValue();
        due.is("run " + run + " call " + calls++ + " " + name + Arrays.toString(args), got, want);
    }

    private int below(int n) {
        return random.nextInt(n);
    }

    private boolean seldom() {
        return below(25) == 0;
    }

    /** Mostly one of 0 .. n - 1, seldom any number. */
    private int some(int n) {
        return seldom() || n < 1 ? WILD[below(WILD.length)] : below(n);
    }

    private int around(int size) {
        return seldom() ? WILD[below(WILD.length)] : below(2 * size + 1) - size;
    }

    private int ticks() {
        return seldom() ? WILD[below(WILD.length)] : 1 + below(below(4) == 0 ? 40 : 12);
    }

    /** Mostly an early one, seldom one about the last that there is. */
    private int aTick() {
        return seldom() ? 195 + below(10) : some(14);
    }

    private int aBox() {
        return some(model.count(0));
    }

    private int aFlight() {
        return some(model.count(1));
    }

    private int someFlights() {
        return some(1 << model.count(1));
    }

    private int aPaper() {
        return some(model.count(2));
    }

    private void goOn() throws Exception {
        int boxes = 1 + below(6);
        for (int b = 0; b < boxes; b++) call("box", below(7));
        for (int b = 0; b < boxes; b++) {
            tell(lively());
            call("program", b);
            for (int i = 0; i < 4; i++) call("wire", b, i, below(boxes + 1) - 1, below(2));
            if (below(3) == 0) call("bits", b, below(4), 2 + below(19));
            if (below(2) == 0) call("twin", b, below(boxes));
        }
        int flights = 1 + below(4);
        for (int f = 0; f < flights; f++) {
            call("flight");
            for (int k = 0; k < 3; k++) call("felt", 10 * f + k, around(300), around(20), 99999 >> below(9));
        }
        for (int n = 0; n < 420 && calls < MOST_CALLS; n++) {
            switch (below(6)) {
                case 0: ofBoxes(); break;
                case 1: case 2: ofFlights(); break;
                case 3: ofFaults(); break;
                case 4: ofPapers(); break;
                default: ofShelves(); break;
            }
        }
    }

    private void ofBoxes() throws Exception {
        switch (below(8)) {
            case 0: if (seldom()) call("box", some(7)); break;
            case 1: case 2: tellProgram(); break;
            case 3: call("bits", aBox(), some(8), seldom() ? WILD[below(WILD.length)] : 2 + below(19)); break;
            case 4: case 5: call("wire", aBox(), some(4), below(4) == 0 ? -1 : aBox(), some(4)); break;
            case 6: call("line", aBox(), below(6), some(4)); break;
            default: call("watch", aBox(), below(6), some(2)); break;
        }
    }

    private void tellProgram() throws Exception {
        String text = below(2) == 0 ? lively() : text();
        if (below(6) == 0) {
            int at = below(text.length());
            String odd = "k?:!rs=0189tefi|&<>+-*/%(); ";
            String with = below(3) == 0 ? "" : "" + odd.charAt(below(odd.length()));
            text = text.substring(0, at) + with + text.substring(at + below(2));
        }
        if (seldom()) text += ";r0=1".repeat(below(14));
        tell(text);
        if (seldom()) call("feed", WILD[below(WILD.length)], 5);
        call("program", aBox());
    }

    private void tell(String text) throws Exception {
        for (int at = 0; at < text.length();) {
            int n = Math.min(4, text.length() - at);
            int v = 0;
            for (int i = 0; i < n; i++) v |= text.charAt(at + i) << 8 * i;
            call("feed", n, n < 4 ? v | below(256) << 8 * n : v);
            at += n;
        }
    }

    private String lively() {
        StringBuilder s = new StringBuilder();
        int lines = 1 + below(6);
        for (int l = 0; l < lines; l++) {
            s.append(l > 0 ? ";" : "").append(LIVELY[below(LIVELY.length)]);
        }
        return s.toString();
    }

    private String text() {
        StringBuilder s = new StringBuilder();
        int lines = 1 + below(5);
        for (int l = 0; l < lines; l++) {
            if (l > 0) s.append(';');
            if (below(4) == 0) s.append('k');
            if (below(4) == 0) s.append('?').append(e(2)).append(':');
            if (below(5) == 0) s.append('!');
            s.append(below(3) == 0 ? "s" + below(4) : "r" + below(4)).append('=').append(e(3));
        }
        return s.toString();
    }

    private String e(int size) {
        if (size == 0 || below(3) == 0) return operand();
        String op = "+-*/%+-*|&<=>".charAt(below(13)) + "";
        String left = e(size - 1);
        String right = e(size - 1);
        switch (below(6)) {
            case 0: return "(" + left + ")" + op + right;
            case 1: return left + op + "(" + right + ")";
            case 2: return "-(" + left + op + right + ")";
            default: return operand() + op + operand();
        }
    }

    private String operand() {
        switch (below(9)) {
            case 0: return "r" + below(4);
            case 1: return "i" + below(4);
            case 2: case 3: return "f" + below(3);
            case 4: return "t";
            case 5: return below(3) == 0 ? "e" : "r" + below(8);
            case 6: return "" + below(100000);
            case 7: return below(4) == 0 ? "-" + below(10) : "" + below(10);
            default: return "" + below(300);
        }
    }

    private int aFelt() {
        return 10 * aFlight() + some(3);
    }

    private void ofFlights() throws Exception {
        switch (below(13)) {
            case 0: if (seldom()) call("flight"); break;
            case 1: call("felt", aFelt(), around(below(2) == 0 ? 50 : 99999), around(20), some(100000)); break;
            case 2: call("feltRow", aFelt(), some(7) - 1, some(6) - 1); break;
            case 3: call("feels", aFelt(), some(200)); break;
            case 4: case 5: tryRun(); break;
            case 6: case 7: {
                int least = around(below(9) == 0 ? 99999 : 40);
                call("span", 10 * below(2) + some(3), least, below(9) == 0 ? around(99999) : least + below(5));
                break;
            }
            case 8:
                call("all", some(2), aFlight(), ticks());
                for (int k = 0; k < 3; k++) call("began", k);
                break;
            case 9: call("began", some(3)); break;
            case 10: call("gaps", some(2), aBox()); break;
            case 11: call("bounds", some(2), aBox(), below(4), some(2)); break;
            default: call("like", some(2), below(6) - 1); break;
        }
    }

    private void tryRun() throws Exception {
        call("run", aFlight(), ticks());
        for (int n = 0; n < 5; n++) {
            int what = below(5) == 0 ? 30 + below(4) : below(2) == 0 ? below(9) : 10 * (1 + below(2)) + below(5);
            call("ofRun", aBox(), what);
        }
        call("firstFault", some(4));
    }

    private void ofFaults() throws Exception {
        int n = ticks();
        switch (below(9)) {
            case 0: case 1: call("far", aBox(), aFlight(), n, 1000 * some(10) + aTick()); break;
            case 2: call("twin", aBox(), aBox()); break;
            case 3: call("worth", aBox(), someFlights(), n); break;
            case 4: call("needed", aBox(), aFlight(), n); break;
            case 5: call("best", aBox(), someFlights(), 1000 * some(10) + n, some(2)); break;
            case 6: call("best", aBox(), someFlights(), 1000 * (1 + below(9)) + 1 + below(9), 1); break;
            default: call("fewest", someFlights(), n, some(2)); break;
        }
    }

    private void ofPapers() throws Exception {
        switch (below(9)) {
            case 0: call("paper", 0, some(3), some(200), on()); break;
            case 1: call("paper", some(2), 10 + aBox(), 100 * aFlight() + below(30), on()); break;
            case 2: call("paper", 1, 10 + aBox(), 100 * aFlight() + below(30), 9999); break;
            case 3: call("holds", some(2), aPaper()); break;
            case 4: case 5: call("sign", some(12), aPaper(), some(1 << below(model.count(2) + 1))); break;
            case 6: call("saw", aPaper(), aPaper()); break;
            case 7: call("blind", some(2)); break;
            default: call("count", some(5)); break;
        }
    }

    private int on() {
        return 100 * (below(2) == 0 ? 99 : aPaper()) + (below(2) == 0 ? 99 : aPaper());
    }

    private void ofShelves() throws Exception {
        int shelf = below(3) == 0 ? some(6) : below(2);
        switch (below(14)) {
            case 0: call("act", aBox(), some(4), random.nextInt()); break;
            case 1: call("act", aBox(), 3, below(100)); break;
            case 2: call("trace", some(9)); break;
            case 3: call("keep", shelf, below(4) == 0 ? -1 : aBox()); break;
            case 4: case 5: call("row", shelf, below(3) == 0 ? some(5) : 3 + below(2), seldom() ? 61 : below(9) - 1); break;
            case 6: case 7: call("put", shelf, some(6), below(3) == 0 ? random.nextLong() : below(2000) - 1000L); break;
            case 8: call("noNumber", shelf, some(6)); break;
            case 9: case 10: call("element", shelf, some(6)); break;
            case 11: case 12: call("shift", shelf, some(4), below(2), some(4), some(4)); break;
            default: call("taken", shelf, some(7)); break;
        }
    }
}
