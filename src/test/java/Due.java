import java.io.IOException;
import java.io.UncheckedIOException;
import java.nio.charset.StandardCharsets;
import java.nio.file.Files;
import java.nio.file.Path;

/** Counts the answers that are not as due, and helps to write calls. */
final class Due {
    private static final String DOC = document();

    private int asked;
    private int wrong;
    private String sentence = "";

    private static String document() {
        try {
            return squeezed(Files.readString(Path.of("../shared/DOC.md"), StandardCharsets.UTF_8));
        } catch (IOException e) {
            throw new UncheckedIOException(e);
        }
    }

    private static String squeezed(String text) {
        return text.replaceAll("\\s+", " ");
    }

    /** Names the sentence of the document that the rows from here on hold NarrowBox to. */
    void says(String quoted) {
        sentence = quoted;
        is("the document says so", DOC.contains(squeezed(quoted)) ? 1 : 0, 1);
    }

    void is(String what, long got, long want) {
        asked++;
        if (got != want) {
            wrong++;
            System.out.println(what + " answered " + got + ", due is " + want
                + (sentence.isEmpty() ? "" : ", by: " + sentence));
        }
    }

    void isTrue(String what, boolean is) {
        is(what, is ? 1 : 0, 1);
    }

    /** Ends the test: exit code 1 if one answer was wrong, or if nothing was asked at all. */
    void end() {
        System.out.println(asked - wrong + " of " + asked + " answers are as due");
        if (wrong != 0 || asked == 0) {
            System.exit(1);
        }
    }

    /** Feeds a text to THE TAPE, four bytes a call. */
    static void feed(NarrowBox x, String text) {
        for (int at = 0; at < text.length(); at += 4) {
            int n = Math.min(4, text.length() - at);
            int v = 0;
            for (int i = 0; i < n; i++) {
                v |= (text.charAt(at + i) & 255) << 8 * i;
            }
            x.feed(n, v);
        }
    }

    static int program(NarrowBox x, int box, String text) {
        feed(x, text);
        return x.program(box);
    }
}
