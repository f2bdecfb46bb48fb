import java.io.IOException;
import java.net.URL;
import java.net.URLClassLoader;
import java.nio.file.Files;
import java.nio.file.Path;
import java.util.ArrayList;
import java.util.List;
import java.util.Set;
import java.util.TreeMap;
import java.util.TreeSet;
import java.util.regex.Matcher;
import java.util.regex.Pattern;
import javax.tools.ToolProvider;

/** README.md: its Java compiles, each call there answers what stands behind it, and its list of calls is the document's. */
public final class ReadmeTest {
    private static final Path README = Path.of("README.md");
    private static final Path DOCUMENT = Path.of("../shared/DOC.md");
    private static final Pattern CALL = Pattern.compile("(x\\.(\\w+)\\([^;]*\\));\\s+// (-?\\d+|[A-Z]+)([:,].*)?");
    private static final Pattern FACE = Pattern.compile("    public (?:int|long) (\\w+\\(.*\\));");
    private static final Pattern PROMISE = Pattern.compile("`(?:int|long) (\\w+)\\(.*?\\)`: (.*)");
    private static final Pattern ROW = Pattern.compile("\\| `((\\w+)\\(.*?\\))` +\\|.*");
    private static final Pattern REFUSAL = Pattern.compile("\\b(BAD|STATE|FULL|NONE|NO)\\b");
    private static final Checks CHECKS = new Checks();

    public static void main(String[] args) throws Exception {
        List<String> readme = Files.readAllLines(README);
        List<String> document = Files.readAllLines(DOCUMENT);
        List<String> java = javaLines(readme);
        everyCallIsShown(java, face(document));
        answers(java);
        listOfCalls(readme, document);
        CHECKS.end();
    }

    private static List<String> javaLines(List<String> readme) {
        List<String> lines = new ArrayList<>();
        boolean inside = false;
        for (String line : readme) {
            if (line.startsWith("```")) inside = line.equals("```java");
            else if (inside) lines.add(line);
        }
        return lines;
    }

    /** The calls of the document's face, without the types: "plan(w, k)". */
    private static List<String> face(List<String> document) {
        List<String> all = new ArrayList<>();
        for (String line : document) {
            Matcher m = FACE.matcher(line);
            if (m.matches()) all.add(m.group(1).replace("int ", ""));
        }
        CHECKS.due("calls of the document", all.size(), 24);
        return all;
    }

    private static void everyCallIsShown(List<String> java, List<String> face) {
        Set<String> shown = new TreeSet<>(Set.of("type"));
        for (String line : java) {
            Matcher m = CALL.matcher(line);
            if (m.matches()) shown.add(m.group(2));
        }
        Set<String> due = new TreeSet<>();
        for (String call : face) due.add(call.substring(0, call.indexOf('(')));
        CHECKS.holds("every call of the face is shown: " + shown, shown.equals(due));
    }

    /** The lines as they stand, each call that has an answer behind it handing both over. */
    private static void answers(List<String> java) throws Exception {
        StringBuilder source = new StringBuilder("final class ReadmeCalls {\n static void make(java.util.Map<String, long[]> answers) {\n");
        int calls = 0;
        for (String line : java) {
            Matcher m = CALL.matcher(line);
            boolean isCall = m.matches();
            CHECKS.holds("a call has its answer behind it: " + line, isCall || !line.startsWith("x."));
            if (!isCall) {
                source.append(line).append('\n');
                continue;
            }
            String want = m.group(3).matches("[A-Z]+") ? "DoorMornings." + m.group(3) : m.group(3);
            String title = String.format("%03d %s", calls++, m.group(1));
            source.append(String.format("answers.put(\"%s\", new long[] {%s, %s});%n", title, m.group(1), want));
        }
        TreeMap<String, long[]> answers = new TreeMap<>();
        run(source.append(" }\n}\n").toString(), answers);
        CHECKS.due("calls of README.md that were made", answers.size(), calls);
        answers.forEach((call, both) -> CHECKS.due("README.md: " + call, both[0], both[1]));
    }

    private static void run(String source, TreeMap<String, long[]> answers) throws Exception {
        Path out = Files.createTempDirectory("readme");
        Path file = out.resolve("ReadmeCalls.java");
        try {
            Files.writeString(file, source);
            String classes = System.getProperty("java.class.path");
            int code = ToolProvider.getSystemJavaCompiler().run(null, null, null, "-cp", classes, "-d", out.toString(), file.toString());
            CHECKS.due("the Java of README.md compiles", code, 0);
            if (code != 0) return;
            try (URLClassLoader loader = new URLClassLoader(new URL[] {out.toUri().toURL()})) {
                var make = loader.loadClass("ReadmeCalls").getDeclaredMethod("make", java.util.Map.class);
                make.setAccessible(true);
                make.invoke(null, answers);
            }
        } finally {
            remove(out);
        }
    }

    private static void remove(Path directory) throws IOException {
        try (var files = Files.list(directory)) {
            for (Path file : files.toList()) Files.delete(file);
        }
        Files.delete(directory);
    }

    private static void listOfCalls(List<String> readme, List<String> document) {
        TreeMap<String, Set<String>> promised = new TreeMap<>();
        for (String line : document) {
            Matcher m = PROMISE.matcher(line);
            if (m.matches()) promised.put(m.group(1), refusals(m.group(2)));
        }
        CHECKS.due("promises of calls", promised.size(), 24);
        List<String> listed = new ArrayList<>();
        for (String line : readme) {
            Matcher m = ROW.matcher(line);
            if (!m.matches()) continue;
            listed.add(m.group(1));
            String[] cells = line.split("\\|", -1);
            Set<String> refused = refusals(cells[cells.length - 2]);
            CHECKS.holds(m.group(1) + " is refused as promised: " + refused, refused.equals(promised.get(m.group(2))));
        }
        CHECKS.holds("the list of calls is the document's: " + listed, listed.equals(face(document)));
    }

    private static Set<String> refusals(String text) {
        Set<String> all = new TreeSet<>();
        Matcher m = REFUSAL.matcher(text);
        while (m.find()) all.add(m.group(1));
        return all;
    }
}
