/** Part 1 of the terms, sentence by sentence: THE TAPE, and which texts are a PROGRAM. */
public final class TextSentencesTest {
    private static final Due DUE = new Due();
    private static final int BAD = NarrowBox.BAD, FULL = NarrowBox.FULL;

    public static void main(String[] args) {
        tape();
        tapeBytes();
        tapeIsEmptyThen();
        lines();
        heads();
        targets();
        levels();
        oneComparison();
        numbers();
        noBlanks();
        names();
        open();
        openAreClosedAgain();
        thirteenthLine();
        endsTooEarly();
        wrongBytes();
        faultOfEmpty();
        programOfOthers();
        line();
        watch();
        DUE.end();
    }

    private static int program(String text) {
        NarrowBox x = new NarrowBox();
        x.box(0);
        return Due.program(x, 0, text);
    }

    private static void isProgram(String text, int lines) {
        DUE.is(text, program(text), lines);
    }

    private static void isWrongAt(String text, int place) {
        DUE.is(text, program(text), -100 - place);
    }

    private static void tape() {
        DUE.says("A PROGRAM by THE TAPE (at most 160 bytes)");
        for (int n = 1; n <= 4; n++) {
            NarrowBox x = new NarrowBox();
            int fed = 0;
            while (fed + n <= 160) {
                fed += n;
                DUE.is("feed " + n, x.feed(n, 0), fed);
            }
            DUE.is("the next is too much", x.feed(n, 0), FULL);
            DUE.is("as many as before", x.count(3), fed);
            while (fed < 160) DUE.is("one more", x.feed(1, 0), ++fed);
            DUE.is("one above 160", x.feed(1, 0), FULL);
        }
        isProgram("r0=" + "1+".repeat(78) + "1", 1);
        isWrongAt("r0=" + "1+".repeat(78) + "+", 159);
        isWrongAt("r0=" + "11+1".repeat(39) + "+", 160);
        isProgram("r0=" + "1+".repeat(77) + "12", 1);
        NarrowBox x = new NarrowBox();
        x.box(0);
        x.flight();
        isProgram("r0=0;" + "r1=r0+" + "1+".repeat(74) + "1", 2);
        Due.program(x, 0, "r0=7;" + "r1=r0+" + "1+".repeat(74) + "2");
        x.run(0, 1);
        DUE.is("the last of 160 bytes counts", x.ofRun(0, 1), 7 + 74 + 2);
    }

    private static void tapeBytes() {
        DUE.says("n (1 .. 4) bytes come to THE TAPE, the lowest of v first: how many it has.");
        String text = "s3=7";
        for (int n = 1; n <= 4; n++) {
            NarrowBox x = new NarrowBox();
            x.box(0);
            for (int at = 0; at < 4;) {
                int bytes = Math.min(n, 4 - at);
                int v = 0x21 << 24 | 0x21 << 16 | 0x21 << 8 | 0x21;
                for (int i = 0; i < bytes; i++) v = v & ~(255 << 8 * i) | text.charAt(at + i) << 8 * i;
                at += bytes;
                DUE.is("fed " + bytes, x.feed(bytes, v), at);
            }
            DUE.is("they are the text", x.program(0), 1);
            DUE.is("its target", x.line(0, 0, 3), 13);
        }
        NarrowBox x = new NarrowBox();
        x.box(0);
        x.feed(3, 'r' | '0' << 8 | '=' << 16);
        x.feed(1, -256 | '5');
        DUE.is("what is above the lowest does not come", x.program(0), 1);
        x.feed(4, 'r' | '0' << 8 | '=' << 16 | 0xb1 << 24);
        DUE.is("a byte above 127 is itself", x.program(0), -103);
    }

    private static void tapeIsEmptyThen() {
        DUE.says("how many LINES; -100 less its FAULT; THE TAPE is empty then. BAD (it stays).");
        NarrowBox x = new NarrowBox();
        x.box(0);
        Due.feed(x, "r0=");
        DUE.is("no such box", x.program(1), BAD);
        DUE.is("no such box below", x.program(-1), BAD);
        DUE.is("it stays", x.count(3), 3);
        Due.feed(x, "4;");
        DUE.is("it goes on where it was", x.count(3), 5);
        DUE.is("a fault", x.program(0), -105);
        DUE.is("it is empty then", x.count(3), 0);
        DUE.is("an empty one", x.program(0), -100);
        DUE.is("a program", Due.program(x, 0, "r0=4"), 1);
        DUE.is("it is empty then, too", x.count(3), 0);
        for (int n = 0; n < 40; n++) x.feed(4, 0);
        x.program(0);
        DUE.is("160 can come again", x.feed(4, 0), 4);
    }

    private static void lines() {
        DUE.says("LINES, 1 to 12, parted by ;");
        isWrongAt("", 0);
        for (int n = 1; n <= 12; n++) isProgram("r0=1" + ";r0=1".repeat(n - 1), n);
        for (int n = 13; n <= 32; n++) isWrongAt("r0=1" + ";r0=1".repeat(n - 1), 60);
        isWrongAt(";r0=1", 0);
        isWrongAt("r0=1;;r0=1", 5);
        isWrongAt("r0=1;", 5);
        for (String other : new String[] {",", ":", "\n", ".", ";;", "r"}) isWrongAt("r0=1" + other + "r0=1", other.equals(";;") ? 5 : 4);
    }

    private static void heads() {
        DUE.says("LINE: perhaps k (it CATCHES), perhaps ? E : (a TEST), perhaps ! (a WATCH), then a TARGET");
        for (int heads = 0; heads < 8; heads++) {
            String text = ((heads & 1) > 0 ? "k" : "") + ((heads & 2) > 0 ? "?2:" : "") + ((heads & 4) > 0 ? "!" : "") + "r0=1";
            NarrowBox x = new NarrowBox();
            x.box(0);
            DUE.is(text, Due.program(x, 0, text), 1);
            for (int what = 0; what < 3; what++) DUE.is(text + " line " + what, x.line(0, 0, what), heads >> what & 1);
        }
        isWrongAt("kkr0=1", 1);
        isWrongAt("!!r0=1", 1);
        isWrongAt("!kr0=1", 1);
        isWrongAt("!?1:r0=1", 1);
        isWrongAt("?1:kr0=1", 3);
        isWrongAt("?1:?1:r0=1", 3);
        isWrongAt("?1:k!r0=1", 3);
        isWrongAt("?:r0=1", 1);
        isWrongAt("?1r0=1", 2);
        isWrongAt("?1;r0=1", 2);
        isWrongAt("?r0=1", 5);
        isWrongAt("?r0=1;", 5);
        isWrongAt("?1::r0=1", 3);
        isWrongAt("1:r0=1", 0);
        isWrongAt("r0=?1:1", 3);
        isWrongAt("r0=!1", 3);
        isWrongAt("r0=k", 3);
    }

    private static void targets() {
        DUE.says("then a TARGET: r and a digit 0 .. 7, or s and a digit 0 .. 3 (a PORT), = and E.");
        NarrowBox x = new NarrowBox();
        x.box(0);
        for (int digit = -1; digit <= 10; digit++) {
            char sign = (char) ('0' + digit);
            DUE.is("r" + sign, Due.program(x, 0, "r" + sign + "=1"), digit >= 0 && digit <= 7 ? 1 : -101);
            if (digit >= 0 && digit <= 7) DUE.is("target", x.line(0, 0, 3), digit);
            DUE.is("s" + sign, Due.program(x, 0, "s" + sign + "=1"), digit >= 0 && digit <= 3 ? 1 : -101);
            if (digit >= 0 && digit <= 3) DUE.is("target", x.line(0, 0, 3), 10 + digit);
        }
        for (String name : new String[] {"i0", "f0", "t", "e", "1", "(", "-", "=", "R0", "S0"}) isWrongAt(name + "=1", 0);
        isWrongAt("r00=1", 2);
        isWrongAt("r=1", 1);
        isWrongAt("s=1", 1);
        isWrongAt("r01", 2);
        isWrongAt("r0==1", 3);
        isWrongAt("r0:=1", 2);
    }

    private static void levels() {
        DUE.says("E = A { | A }. A = B { & B }. B = S, or S < S, S = S, S > S. S = P { + P, - P }. P = O { * O, / O, % O }.");
        for (char op : "|&+-*/%".toCharArray()) {
            isProgram("r0=1" + op + "2", 1);
            isProgram("r0=1" + op + "2" + op + "3" + op + "4", 1);
            isWrongAt("r0=1" + op, 5);
            isWrongAt("r0=1" + op + ";", 5);
            isWrongAt("r0=(1" + op + ")", 6);
            if (op != '-') isWrongAt("r0=" + op + "1", 3);
            if (op != '-') isWrongAt("r0=1" + op + op + "1", 5);
        }
        for (char op : "<=>".toCharArray()) {
            isProgram("r0=1" + op + "2", 1);
            isWrongAt("r0=1" + op, 5);
            isWrongAt("r0=" + op + "1", 3);
            isWrongAt("r0=1" + op + op + "1", 5);
        }
        for (char op : "!~^\\#$@,.'\"[]{}_`?:;".toCharArray()) isWrongAt("r0=1" + op + "2", op == ';' ? 5 : 4);
    }

    private static void oneComparison() {
        DUE.says("B = S, or S < S, S = S, S > S.");
        for (char one : "<=>".toCharArray()) {
            for (char two : "<=>".toCharArray()) {
                isWrongAt("r0=1" + one + "2" + two + "3", 6);
                isProgram("r0=(1" + one + "2)" + two + "3", 1);
                isProgram("r0=1" + one + "2&3" + two + "4", 1);
                isProgram("r0=1" + one + "2|3" + two + "4", 1);
                isWrongAt("r0=1" + one + "2+3" + two + "4", 8);
                isWrongAt("?1" + one + "2" + two + "3:r0=1", 4);
            }
        }
    }

    private static void numbers() {
        DUE.says("O = a number (1 to 5 digits), a NAME, - O, ( E ).");
        for (int digits = 1; digits <= 5; digits++) {
            isProgram("r0=" + "9".repeat(digits), 1);
            isProgram("r0=" + "0".repeat(digits), 1);
            isProgram("?" + "1".repeat(digits) + ":r0=1", 1);
        }
        for (int digits = 6; digits <= 8; digits++) {
            isWrongAt("r0=" + "9".repeat(digits), 8);
            isWrongAt("r0=" + "0".repeat(digits), 8);
            isWrongAt("r0=-" + "1".repeat(digits), 9);
            isWrongAt("?" + "1".repeat(digits) + ":r0=1", 6);
        }
        isWrongAt("r0=", 3);
        isWrongAt("r0=()", 4);
        isWrongAt("r0=(1", 5);
        isWrongAt("r0=(1;", 5);
        isWrongAt("r0=1)", 4);
        isWrongAt("r0=(1))", 6);
        isWrongAt("r0=12(3)", 5);
        isWrongAt("r0=(3)2", 6);
        isWrongAt("r0=r1r2", 5);
        isWrongAt("r0=1t", 4);
    }

    private static void noBlanks() {
        DUE.says("No blanks.");
        String text = "k?r0<1:!s3=-(i3)+12;r1=e%2";
        isProgram(text, 2);
        for (int at = 0; at <= text.length(); at++) {
            isWrongAt(text.substring(0, at) + " " + text.substring(at), at);
            isWrongAt(text.substring(0, at) + "\t" + text.substring(at), at);
        }
        isWrongAt(" ", 0);
    }

    private static void names() {
        DUE.says("NAMES: r0 .. r7; i0 .. i3 (INPUTS); f0 .. f2 (what is FELT now); t the TICK; e the FAULT");
        String[] heads = {"r", "i", "f"};
        int[] greatest = {7, 3, 2};
        for (int h = 0; h < 3; h++) {
            for (int digit = -1; digit <= 10; digit++) {
                String name = heads[h] + (char) ('0' + digit);
                if (digit >= 0 && digit <= greatest[h]) isProgram("r0=" + name, 1);
                else isWrongAt("r0=" + name, 4);
            }
            isWrongAt("r0=" + heads[h], 4);
            isWrongAt("r0=" + heads[h] + "+1", 4);
            isWrongAt("r0=" + heads[h] + "00", 5);
        }
        isProgram("r0=t+e", 1);
        isWrongAt("r0=t0", 4);
        isWrongAt("r0=e0", 4);
        isWrongAt("r0=te", 4);
        for (String none : new String[] {"s0", "k", "x", "T", "E", "I0", "F0", "n", "a"}) isWrongAt("r0=" + none, 3);
    }

    private static void open() {
        DUE.says("At most 6 of ( - ahead of an O are open at once.");
        for (int way = 0; way < 64; way++) {
            StringBuilder ahead = new StringBuilder();
            int parts = 0;
            for (int i = 0; i < 6; i++) {
                boolean isPart = (way >> i & 1) == 1;
                ahead.append(isPart ? '(' : '-');
                parts += isPart ? 1 : 0;
            }
            String end = ")".repeat(parts);
            isProgram("r0=" + ahead + "1" + end, 1);
            isProgram("?" + ahead + "r1" + end + ":r0=1", 1);
            isProgram("r0=1-" + ahead + "t" + end + "*2", 1);
            isWrongAt("r0=" + ahead + "(1)" + end, 9);
            isWrongAt("r0=" + ahead + "-1" + end, 9);
            isWrongAt("r0=" + ahead, 9);
            isWrongAt("r0=" + ahead + "(", 9);
            isWrongAt("r0=" + ahead + "-", 9);
            isWrongAt("?" + ahead + "-1", 7);
            isWrongAt("r0=1-" + ahead + "(", 11);
        }
    }

    private static void openAreClosedAgain() {
        DUE.says("At most 6 of ( - ahead of an O are open at once.");
        isProgram("r0=((((((1))))))+((((((1))))))", 1);
        isProgram("r0=------1------1", 1);
        isProgram("r0=------1-------1", 1);
        isWrongAt("r0=------1--------1", 17);
        isProgram("r0=(((((1+(2)*(3)-(4))))))", 1);
        isProgram("r0=(((((-1+-2*-3--4)))))", 1);
        isWrongAt("r0=(((((1+(2)*(-3))))))", 15);
        isWrongAt("r0=(((((-1+(2)*--3)))))", 16);
        isProgram("r0=-(-(-(1+1)+1)+1)", 1);
        isWrongAt("r0=-(-(-(1+(1))))", 11);
        isProgram("r0=((((((1+1)<2)=3)>4)|5)&6)", 1);
        isProgram("?------1:r0=------1;r1=((((((1))))))", 2);
    }

    private static void thirteenthLine() {
        DUE.says("(a thirteenth LINE: its first byte)");
        String twelve = "r0=1;".repeat(12);
        for (String more : new String[] {"r0=1", "k", "?", "!", "s", "x", ";", "\u0000", "\u00ff", "kr0=1;r0=2"}) isWrongAt(twelve + more, 60);
        isWrongAt(twelve, 60);
        isProgram(twelve.substring(0, 59), 12);
        String longer = "r0=12;".repeat(11) + "!r0=7";
        isProgram(longer, 12);
        isWrongAt(longer + ";", 72);
        isWrongAt(longer + ";r", 72);
        isWrongAt(longer + "x", 71);
        isWrongAt("r0=1;".repeat(11) + "r8", 56);
    }

    private static void endsTooEarly() {
        DUE.says("the length, if it ends too early");
        String text = "k?(r7|i3)&f2<t:!s3=-e*12345/6%7+8-9>0;r0=12";
        //   what can end there:  -e, -e*1 .. -e*12345, /6, %7, +8, -9, >0, and so on
        String ends = "....................+.+++++.+.+.+.+.+....++";
        for (int length = 0; length <= text.length(); length++) {
            String start = text.substring(0, length);
            boolean isWhole = length > 0 && ends.charAt(length - 1) == '+';
            if (isWhole) isProgram(start, length < 40 ? 1 : 2);
            else isWrongAt(start, length);
        }
    }

    private static void wrongBytes() {
        DUE.says("the place (from 0) of the first byte with which no PROGRAM goes on");
        String text = "k?(r7|i3)&f2<t:!s3=-e*12345/6%7+8-9>0;r0=12";
        for (int at = 0; at <= text.length(); at++) {
            for (char wrong : new char[] {0, 'x', 127, 128, 255, '\'', 'K'}) {
                isWrongAt(text.substring(0, at) + wrong + (at < text.length() ? text.substring(at + 1) : ""), at);
                isWrongAt(text.substring(0, at) + wrong, at);
            }
        }
        isWrongAt("r0=1;r1=2x;r8", 9);
        isWrongAt("x".repeat(160), 0);
        isWrongAt("r0=" + "1+".repeat(78) + "x", 159);
    }

    private static void faultOfEmpty() {
        DUE.says("-100 less its FAULT");
        isWrongAt("", 0);
        isWrongAt("k", 1);
        isWrongAt("k?", 2);
        isWrongAt("!", 1);
        isWrongAt("r", 1);
        isWrongAt("s", 1);
        isWrongAt("r0", 2);
    }

    private static void programOfOthers() {
        DUE.says("THE TAPE becomes the PROGRAM of a BOX");
        NarrowBox x = new NarrowBox();
        for (int b = 0; b < 6; b++) {
            x.box(0);
            for (int what = 0; what < 4; what++) DUE.is("without a program", x.line(b, 0, what), BAD);
        }
        for (int b = 0; b < 6; b++) DUE.is("lines", Due.program(x, b, "r" + b + "=1" + ";s0=1".repeat(b)), b + 1);
        for (int b = 0; b < 6; b++) {
            DUE.is("its own", x.line(b, 0, 3), b);
            DUE.is("its last", x.line(b, b, 3), b == 0 ? 0 : 10);
            DUE.is("no more", x.line(b, b + 1, 3), BAD);
        }
        DUE.is("another one", Due.program(x, 5, "!kr0=1"), -101);
        DUE.is("the old one stays", x.line(5, 5, 3), 10);
        DUE.is("not watched", x.line(5, 0, 2), 0);
        DUE.is("a shorter one", Due.program(x, 5, "k?1:!r1=1"), 1);
        for (int what = 0; what < 3; what++) DUE.is("of the new one", x.line(5, 0, what), 1);
        DUE.is("the rest is gone", x.line(5, 1, 3), BAD);
        DUE.is("once more", Due.program(x, 5, "r1=1;r2=1"), 2);
        for (int what = 0; what < 3; what++) DUE.is("nothing is left of the other", x.line(5, 0, what), 0);
    }

    private static void line() {
        DUE.says("Of a LINE: 0 whether it CATCHES, 1 has a TEST, 2 a WATCH, 3 its TARGET (10 + PORT of PORTS). BAD.");
        NarrowBox x = new NarrowBox();
        x.box(0);
        String[] lines = {"kr0=1", "?1:r1=1", "!r2=1", "k?1:s0=1", "k!s1=1", "?1:!s2=1", "k?1:!s3=1", "r7=1", "r6=1", "r5=1", "r4=1", "kr3=1"};
        int[] want = {1000, 101, 12, 1110, 1021, 122, 1123, 7, 6, 5, 4, 1003};
        DUE.is("twelve lines", Due.program(x, 0, String.join(";", lines)), 12);
        for (int l = 0; l < 12; l++) {
            int got = 1000 * x.line(0, l, 0) + 100 * x.line(0, l, 1) + 10 * x.line(0, l, 2) + x.line(0, l, 3);
            DUE.is("CATCHES, TEST, WATCH, TARGET of line " + l, got, want[l]);
        }
        DUE.is("a thirteenth", x.line(0, 12, 0), BAD);
    }

    private static void watch() {
        DUE.says("A WATCH of a LINE is (1) or is not (0): what it was. BAD.");
        NarrowBox x = new NarrowBox();
        x.box(0);
        x.box(0);
        Due.program(x, 0, "r0=1" + ";r0=1".repeat(10) + ";!r0=1");
        Due.program(x, 1, "r0=1" + ";r0=1".repeat(11));
        for (int l = 0; l < 12; l++) {
            DUE.is("as it came", x.watch(0, l, 1), l == 11 ? 1 : 0);
            DUE.is("it is", x.watch(0, l, 1), 1);
            DUE.is("line tells it", x.line(0, l, 2), 1);
            for (int other = l + 1; other < 11; other++) DUE.is("not others", x.line(0, other, 2), 0);
            DUE.is("not of another box", x.line(1, l, 2), 0);
        }
        for (int l = 0; l < 12; l++) {
            DUE.is("no more", x.watch(0, l, 0), 1);
            DUE.is("it is not", x.watch(0, l, 0), 0);
            DUE.is("others are", l == 11 ? 1 : x.line(0, l + 1, 2), 1);
        }
    }
}
