/** Counts the answers that are not as due, and helps to write calls. */
final class Due {
    private int asked;
    private int wrong;

    void is(String what, long got, long want) {
        asked++;
        if (got != want) {
            wrong++;
            System.out.println(what + " answered " + got + ", due is " + want);
        }
    }

    /** Ends the test: exit code 1 if one answer was wrong, or if nothing was asked at all. */
    void end() {
        System.out.println(asked - wrong + " of " + asked + " answers are as due");
        if (wrong != 0 || asked == 0) {
            System.exit(1);
        }
    }

    /** Feeds a text to THE TAPE, four bytes a call. */
    static void feed(NarrowBox x, String text) {
        for (int at = 0; at < text.length(); at += 4) {
            int n = Math.min(4, text.length() - at);
            int v = 0;
            for (int i = 0; i < n; i++) {
                v |= (text.charAt(at + i) & 255) << 8 * i;
            }
            x.feed(n, v);
        }
    }

    static int program(NarrowBox x, int box, String text) {
        feed(x, text);
        return x.program(box);
    }
}
