import java.lang.reflect.Constructor;
import java.lang.reflect.Field;
import java.lang.reflect.Method;
import java.lang.reflect.Modifier;
import java.nio.charset.StandardCharsets;
import java.nio.file.Files;
import java.nio.file.Path;
import java.util.Set;
import java.util.TreeSet;
import java.util.regex.Matcher;
import java.util.regex.Pattern;

/** The public face, and those rules of LANGUAGE.md that can be seen from outside or in the text. */
public final class FaceTest {
    private static final Due DUE = new Due();

    private static final String[] FACE = {"feed/2", "box/1", "program/1", "bits/3", "wire/4", "line/3", "watch/3",
        "flight/0", "felt/4", "feltRow/3", "feels/2", "run/2", "ofRun/2", "firstFault/1", "span/3", "all/3", "began/1",
        "gaps/2", "bounds/4", "like/2", "far/4", "twin/2", "worth/3", "needed/3", "best/4", "fewest/3", "paper/4",
        "holds/2", "sign/3", "saw/2", "blind/1", "act/3", "trace/1", "keep/2", "row/3", "put/3", "noNumber/2",
        "element/2", "shift/5", "taken/2", "count/1"};

    public static void main(String[] args) throws Exception {
        face();
        classesInside();
        String source = Files.readString(Path.of("src/main/java/NarrowBox.java"), StandardCharsets.UTF_8);
        String doc = Files.readString(Path.of("../shared/DOC.md"), StandardCharsets.UTF_8);
        text(source);
        asTheDocumentHasIt(source, doc.substring(doc.indexOf("```java"), doc.indexOf("## Terms")));
        headings(source, doc);
        DUE.end();
    }

    private static void holds(String what, boolean is) {
        DUE.is(what, is ? 1 : 0, 1);
    }

    private static void face() throws Exception {
        Class<?> c = NarrowBox.class;
        holds("public and final", Modifier.isPublic(c.getModifiers()) && Modifier.isFinal(c.getModifiers()));
        Set<String> want = new TreeSet<>(Set.of(FACE));
        Set<String> open = new TreeSet<>();
        Set<String> hidden = new TreeSet<>();
        for (Method m : c.getDeclaredMethods()) {
            boolean isPrivate = Modifier.isPrivate(m.getModifiers());
            (isPrivate ? hidden : open).add(isPrivate ? m.getName() : m.getName() + "/" + m.getParameterCount());
            holds(m.getName() + " is private or public", isPrivate || Modifier.isPublic(m.getModifiers()));
            holds(m.getName() + " has at most seven parameters", m.getParameterCount() <= 7);
        }
        holds("methods of the face are " + open, open.equals(want));
        for (String f : FACE) holds("no private " + f, !hidden.contains(f.substring(0, f.indexOf('/'))));
        holds("element is a long", c.getMethod("element", int.class, int.class).getReturnType() == long.class);
        Constructor<?>[] made = c.getDeclaredConstructors();
        holds("one public constructor", made.length == 1 && Modifier.isPublic(made[0].getModifiers()));
        String[] names = {"BAD", "NOT", "FULL", "BIG", "STATE", "VOID"};
        int[] values = {-1, -2, -3, -4, -5, -2000000000};
        int publicFields = 0;
        for (Field f : c.getDeclaredFields()) {
            publicFields += Modifier.isPrivate(f.getModifiers()) ? 0 : 1;
        }
        DUE.is("constants of the face", publicFields, 6);
        for (int i = 0; i < names.length; i++) DUE.is(names[i], c.getField(names[i]).getInt(null), values[i]);
    }

    /** Each line of the document's face stands in the class, with the same types and names, and in the same order. */
    private static void asTheDocumentHasIt(String source, String face) {
        int behind = 0;
        int members = 0;
        for (String line : face.split("\n")) {
            String member = line.trim().replaceAll("\\);$", ") {");
            if (!member.startsWith("public ")) continue;
            int at = source.indexOf(member);
            holds(member + " stands behind what is ahead of it in the document", at >= behind);
            behind = at;
            members++;
        }
        DUE.is("the class, its constants, its constructor, its calls", members, 3 + FACE.length);
        Matcher open = Pattern.compile("(?m)^ {0,4}public .*$").matcher(source);
        while (open.find()) members--;
        DUE.is("what is public beside these", members, 0);
    }

    /** Ahead of the calls the interface says which part they are of. */
    private static void headings(String source, String doc) {
        Matcher m = Pattern.compile("Ahead of the calls (.*?) the interface says: (---- [^.]*)\\.").matcher(doc);
        int calls = 0;
        while (m.find()) {
            int from = source.indexOf("// " + m.group(2) + "\n");
            int to = source.indexOf("// ----", from + 1);
            Matcher name = Pattern.compile("`(\\w+)`").matcher(m.group(1));
            for (; name.find(); calls++) {
                int at = Math.max(source.indexOf("public int " + name.group(1) + "("),
                    source.indexOf("public long " + name.group(1) + "("));
                holds(name.group(1) + " stands under " + m.group(2), from >= 0 && at > from && at < to);
            }
        }
        DUE.is("calls under a heading", calls, FACE.length);
    }

    private static void classesInside() {
        Class<?>[] inside = NarrowBox.class.getDeclaredClasses();
        holds("at most twelve classes", inside.length + 1 <= 12);
        checkFields(NarrowBox.class);
        for (Class<?> c : inside) {
            holds(c + " is static", Modifier.isStatic(c.getModifiers()));
            holds(c + " is not public", !Modifier.isPublic(c.getModifiers()) && !Modifier.isProtected(c.getModifiers()));
            checkFields(c);
        }
    }

    private static void checkFields(Class<?> c) {
        int own = 0;
        for (Field f : c.getDeclaredFields()) {
            boolean isStatic = Modifier.isStatic(f.getModifiers());
            own += isStatic ? 0 : 1;
            holds("static " + f + " is final", !isStatic || Modifier.isFinal(f.getModifiers()));
        }
        holds(c + " has at most twenty fields", own <= 20);
    }

    private static void text(String source) {
        String code = source.replaceAll("(?s)/\\*.*?\\*/", "").replaceAll("//[^\n]*", "");
        String[] words = {"->", "::", "finally", "synchronized", "assert", "throw", "catch", "try", "Exact", "float[]",
            "double[]", "instanceof", "HashMap", "Math.floor(", "static {", "System.out", "Random", "Thread", "@",
            "package", "StringBuilder", "native", "volatile"};
        for (String w : words) {
            boolean isWord = w.matches("\\w+") && !w.equals("Exact");
            String sought = isWord ? "\\b" + w + "\\b" : Pattern.quote(w);
            holds("no " + w, !Pattern.compile(sought).matcher(code).find());
        }
        Matcher imports = Pattern.compile("import ([^;]*);").matcher(code);
        while (imports.find()) holds("import of " + imports.group(1), imports.group(1).equals("java.util.Arrays"));
        for (char sign : source.toCharArray()) {
            if (sign > 126 || sign < 32 && sign != '\n') holds("sign " + (int) sign, false);
        }
        lengths(source.split("\n"));
    }

    /** No method is longer than sixty lines; a method begins at one of two depths and ends at the same one. */
    private static void lengths(String[] lines) {
        for (int l = 0; l < lines.length; l++) {
            Matcher m = Pattern.compile("^((?: {4}){1,2})\\S.*\\) \\{$").matcher(lines[l]);
            if (!m.matches()) continue;
            int end = l;
            while (end < lines.length && !lines[end].equals(m.group(1) + "}")) end++;
            holds(lines[l].trim() + " has at most sixty lines", end - l < 60);
        }
    }
}
