import java.lang.reflect.Method;
import java.net.URL;
import java.net.URLClassLoader;
import java.nio.charset.StandardCharsets;
import java.nio.file.Files;
import java.nio.file.Path;
import java.util.ArrayList;
import java.util.Comparator;
import java.util.List;
import java.util.Map;
import java.util.Set;
import java.util.TreeMap;
import java.util.TreeSet;
import java.util.concurrent.TimeUnit;
import java.util.regex.Matcher;
import java.util.regex.Pattern;
import java.util.stream.Stream;
import javax.tools.ToolProvider;

/** What README.md says: its Java is run, its commands are run, its lists are held against the document and the tests. */
public final class ReadmeTest {
    private static final Due DUE = new Due();
    private static final Pattern ANSWERED = Pattern.compile("(x\\.\\w+\\(.*\\));\\s+// (-?\\d+)\\b.*");

    public static void main(String[] args) throws Exception {
        String page = read("README.md");
        examples(blocks(page, "java"));
        refusals(page);
        namesOfTests(page);
        for (String commands : blocks(page, "sh")) {
            // This test is one of those that .ci/run starts.
            if (!commands.contains(".ci/run")) commands(commands);
        }
        DUE.isTrue(".ci/run can be run", Files.isExecutable(Path.of(".ci/run")));
        DUE.end();
    }

    private static String read(String file) throws Exception {
        return Files.readString(Path.of(file), StandardCharsets.UTF_8);
    }

    private static List<String> blocks(String page, String of) {
        List<String> blocks = new ArrayList<>();
        Matcher m = Pattern.compile("(?s)```" + of + "\n(.*?)```").matcher(page);
        while (m.find()) blocks.add(m.group(1));
        return blocks;
    }

    // ---- Java

    /** Makes one class of all the Java on the page, whose answers() are what its calls answered, and runs it. */
    private static void examples(List<String> blocks) throws Exception {
        StringBuilder methods = new StringBuilder();
        StringBuilder calls = new StringBuilder();
        List<String> asked = new ArrayList<>();
        List<Long> due = new ArrayList<>();
        for (String block : blocks) {
            if (block.startsWith("static ")) {
                methods.append(block);
                continue;
            }
            for (String line : block.split("\n")) {
                Matcher m = ANSWERED.matcher(line);
                if (m.matches()) {
                    asked.add(m.group(1));
                    due.add(Long.valueOf(m.group(2)));
                    calls.append("a.add((long) ").append(m.group(1)).append(");\n");
                } else {
                    DUE.isTrue("an answer is told, or none is looked for: " + line, !line.startsWith("x."));
                    calls.append(line).append('\n');
                }
            }
        }
        List<?> answers = answers(methods.toString(), calls.toString());
        DUE.isTrue("calls are on the page", !asked.isEmpty());
        DUE.is("calls that were answered", answers.size(), asked.size());
        for (int i = 0; i < asked.size(); i++) DUE.is(asked.get(i), (Long) answers.get(i), due.get(i));
    }

    private static List<?> answers(String methods, String calls) throws Exception {
        Path dir = Files.createTempDirectory("readme");
        Path file = dir.resolve("Examples.java");
        Files.writeString(file, "public class Examples {\n" + methods
            + "public static java.util.List<Long> answers() {\njava.util.List<Long> a = new java.util.ArrayList<>();\n"
            + calls + "return a;\n}\n}\n");
        String classes = Path.of(NarrowBox.class.getProtectionDomain().getCodeSource().getLocation().toURI()).toString();
        int compiled = ToolProvider.getSystemJavaCompiler()
            .run(null, null, null, "-classpath", classes, "-d", dir.toString(), file.toString());
        DUE.is("javac of the page's Java", compiled, 0);
        try (URLClassLoader loader = new URLClassLoader(new URL[] {dir.toUri().toURL()}, ReadmeTest.class.getClassLoader())) {
            Method m = loader.loadClass("Examples").getMethod("answers");
            return (List<?>) m.invoke(null);
        } finally {
            remove(dir);
        }
    }

    private static void remove(Path dir) throws Exception {
        try (Stream<Path> files = Files.walk(dir)) {
            for (Path f : files.sorted(Comparator.reverseOrder()).toList()) Files.delete(f);
        }
    }

    // ---- refusals

    /** The table tells of each refusal the calls whose promise names it. */
    private static void refusals(String page) throws Exception {
        Map<String, String> promises = promises(read("../shared/DOC.md"));
        DUE.is("calls with a promise", promises.size(), 41);
        Set<String> voids = naming(promises, "VOID");
        voidsAreNoBad(page, promises, voids);
        DUE.isTrue("VOID: " + voids, row(page, "`VOID` | -2000000000").equals(voids));
        String[][] rows = {{"NOT", "`NOT` | -2"}, {"FULL", "`FULL` | -3"}, {"BIG", "`BIG` | -4"}, {"STATE", "`STATE` | -5"},
            {"-11", " | -11"}, {"-12", " | -12"}, {"-13", " | -13"}, {"-14", " | -14"}};
        for (String[] r : rows) {
            Set<String> due = naming(promises, r[0]);
            due.remove("element");
            DUE.isTrue(r[0] + ": " + due, row(page, r[1]).equals(due));
        }
        DUE.isTrue("program", row(page, "-100 less the place | ").equals(Set.of("program")));
        DUE.isTrue("act", row(page, "0 | ").equals(Set.of("act")));
        DUE.isTrue("element", row(page, "`Long.MIN_VALUE` | ").equals(Set.of("element")));
    }

    private static void voidsAreNoBad(String page, Map<String, String> promises, Set<String> voids) {
        Set<String> others = new TreeSet<>(promises.keySet());
        others.removeAll(naming(promises, "BAD"));
        others.add("element");
        DUE.isTrue("all but " + others, page.contains("all but `flight`, `act`, `element` and those of `VOID`")
            && others.equals(Set.of("flight", "act", "element")));
        DUE.isTrue("those of VOID", naming(promises, "BAD").containsAll(voids));
    }

    /** What the document says of each call, behind its head. */
    private static Map<String, String> promises(String doc) {
        Map<String, String> promises = new TreeMap<>();
        Matcher m = Pattern.compile("(?s)## Promise \\d+: (\\w+)\n\n`(?:int|long) [^`]*`: (.*?)\n\n## ").matcher(doc);
        for (int at = 0; m.find(at); at = m.end() - 3) promises.put(m.group(1), m.group(2));
        return promises;
    }

    private static Set<String> naming(Map<String, String> promises, String refusal) {
        Pattern p = Pattern.compile("(?<![\\w-])" + refusal + "\\b");
        Set<String> calls = new TreeSet<>();
        promises.forEach((call, said) -> {
            if (p.matcher(said).find()) calls.add(call);
        });
        return calls;
    }

    /** The calls in the third column of the row that begins so. */
    private static Set<String> row(String page, String begins) {
        Set<String> calls = new TreeSet<>();
        for (String line : page.split("\n")) {
            if (!line.startsWith("| " + begins) && !line.startsWith("|" + begins)) continue;
            Matcher m = Pattern.compile("`(\\w+)`").matcher(line.split("\\|")[3]);
            while (m.find()) calls.add(m.group(1));
        }
        return calls;
    }

    // ---- tests

    private static void namesOfTests(String page) throws Exception {
        Set<String> there = new TreeSet<>();
        try (Stream<Path> files = Files.list(Path.of("src/test/java"))) {
            files.forEach(f -> there.add(f.getFileName().toString().replace(".java", "")));
        }
        for (String name : there) DUE.isTrue(name + " is on the page", page.contains("`" + name + "`"));
        Matcher m = Pattern.compile("`(\\w+Test)`").matcher(page);
        while (m.find()) DUE.isTrue(m.group(1) + " is there", there.contains(m.group(1)));
    }

    private static void commands(String commands) throws Exception {
        Path dir = Files.createTempDirectory("readme");
        Process p = new ProcessBuilder("sh", "-e", "-c", commands.replace("$(mktemp -d)", dir.toString()))
            .redirectErrorStream(true).start();
        p.getOutputStream().close();
        String said = new String(p.getInputStream().readAllBytes(), StandardCharsets.UTF_8);
        boolean ended = p.waitFor(10, TimeUnit.MINUTES);
        DUE.isTrue(commands + said, ended && p.exitValue() == 0 && said.contains("answers are as due"));
        remove(dir);
    }
}
