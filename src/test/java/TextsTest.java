import java.util.Random;

/** Promise 4 once more: the fault of texts that are nearly programs, against the slow search of Model.Texts. */
public final class TextsTest {
    private static final String SIGNS = "k?:!rs=0123789tefi|&<>+-*/%();x";
    /** An object is used for at most 512 calls, and a text takes up to 41. */
    private static final int TEXTS_OF_ONE = 12;

    public static void main(String[] args) {
        int texts = args.length > 0 ? Integer.parseInt(args[0]) : 8000;
        Due due = new Due();
        Random random = new Random(2026);
        NarrowBox x = null;
        for (int n = 0; n < texts; n++) {
            if (n % TEXTS_OF_ONE == 0) {
                x = new NarrowBox();
                x.box(0);
            }
            String text = changed(random, line(random) + (random.nextInt(3) == 0 ? ";" + line(random) : ""));
            int fault = Model.Texts.fault(text);
            int got = Due.program(x, 0, text);
            due.is("fault of " + text, Math.min(got, 0), fault < 0 ? 0 : -100 - fault);
        }
        due.end();
    }

    private static String line(Random random) {
        String[] heads = {"", "k", "!", "?t:", "k?e=1:!", "?(1)<2:"};
        String[] ends = {"r0=", "s3=", "r7="};
        return heads[random.nextInt(heads.length)] + ends[random.nextInt(ends.length)] + e(random, 0);
    }

    private static String e(Random random, int depth) {
        String[] names = {"r1", "i3", "f2", "t", "e", "7", "12345"};
        int way = depth > 8 ? 0 : random.nextInt(7);
        switch (way) {
            case 1: return "-" + e(random, depth + 1);
            case 2: case 3: return "(" + e(random, depth + 1) + ")";
            case 4: case 5: return e(random, depth + 2) + "|&<=>+-*/%".charAt(random.nextInt(10)) + e(random, depth + 2);
            default: return names[random.nextInt(names.length)];
        }
    }

    private static String changed(Random random, String text) {
        String s = text;
        for (int n = random.nextInt(3); n > 0 && !s.isEmpty(); n--) {
            int at = random.nextInt(s.length());
            char c = SIGNS.charAt(random.nextInt(SIGNS.length()));
            int way = random.nextInt(3);
            s = s.substring(0, at) + (way == 0 ? "" : c) + s.substring(way == 2 ? at : at + 1);
        }
        s = random.nextInt(5) == 0 ? s.substring(0, random.nextInt(s.length() + 1)) : s;
        return s.length() > 160 ? s.substring(0, 160) : s;
    }
}
