import java.lang.reflect.Method;
import java.lang.reflect.Modifier;
import java.net.URL;
import java.net.URLClassLoader;
import java.nio.file.Files;
import java.nio.file.Path;
import java.util.Comparator;
import java.util.List;
import java.util.Map;
import java.util.Set;
import java.util.TreeSet;
import java.util.function.BiConsumer;
import java.util.regex.Matcher;
import java.util.regex.Pattern;
import java.util.stream.Collectors;
import java.util.stream.Stream;

/**
 * What README.md shows is so: its Java is compiled as it stands, but that each call with an answer behind it is looked
 * at; the tables name every call of the face and every finding, and no other.
 */
public final class ReadmeTest {
    private static final Map<String, Integer> FINDINGS = Map.of("BEYOND", Check.BEYOND, "FULL", Check.FULL,
        "KIND", Check.KIND, "NONE", Check.NONE, "STATE", Check.STATE, "MISSING", Check.MISSING, "SIZE", Check.SIZE);
    private static final Pattern BLOCK = Pattern.compile("(?ms)^```java\n(.*?)^```$");
    /** A call that is not inside a loop tells its answer, perhaps with a remark. */
    private static final Pattern SHOWN =
        Pattern.compile("(?:int (\\w+) = )?(x\\.\\w+\\(.*\\)); +// (-?\\d+|[A-Z]+)(?:: .*)?");
    private static final Pattern CALL = Pattern.compile("\\bx\\.(\\w+)\\(");
    private static final Pattern CALL_ROW = Pattern.compile("(?m)^\\| `(\\w+)\\(([^)]*)\\)` \\|");
    private static final Pattern FINDING_ROW = Pattern.compile("(?m)^\\| ([A-Z]+) \\| (-\\d+) \\|");

    public static void main(String[] args) throws Exception {
        Check check = new Check();
        String page = Files.readString(Path.of("README.md"));
        answers(check, page);
        calls(check, page);
        findings(check, page);
        check.end();
    }

    private static void answers(Check check, String page) throws Exception {
        Path out = Files.createTempDirectory("readme");
        try {
            Path source = Files.writeString(out.resolve("Shown.java"), shown(check, page));
            // The javac that .ci/run uses, whatever this java has inside it.
            int failed = new ProcessBuilder("javac", "--release", "17", "-cp", System.getProperty("java.class.path"),
                "-d", out.toString(), source.toString()).inheritIO().start().waitFor();
            check.due("README.md as Java does not compile: javac", failed, 0);
            if (failed == 0) {
                play(check, out);
            }
        } finally {
            remove(out);
        }
    }

    private static void play(Check check, Path out) throws Exception {
        BiConsumer<String, long[]> due = (call, gotAndWant) -> check.due(call, gotAndWant[0], gotAndWant[1]);
        try (URLClassLoader loader = new URLClassLoader(new URL[] {out.toUri().toURL()})) {
            loader.loadClass("Shown").getMethod("play", BiConsumer.class).invoke(null, due);
        }
    }

    /** The blocks of Java, one behind the other, each in a scope of its own. */
    private static String shown(Check check, String page) {
        StringBuilder b = new StringBuilder("public final class Shown {\n"
            + "public static void play(java.util.function.BiConsumer<String, long[]> due) {\n");
        int blocks = 0;
        for (Matcher m = BLOCK.matcher(page); m.find(); blocks++) {
            b.append("{\n");
            for (String line : m.group(1).split("\n")) {
                b.append(looked(check, line)).append('\n');
            }
            b.append("}\n");
        }
        check.due("README.md shows Java", blocks > 0 ? 1 : 0, 1);
        return b.append("}\n}\n").toString();
    }

    private static String looked(Check check, String line) {
        Matcher m = SHOWN.matcher(line);
        if (!m.matches()) {
            boolean isCall = !line.startsWith(" ") && CALL.matcher(line).find();
            check.due("no answer behind: " + line, isCall ? 1 : 0, 0);
            return line;
        }
        long want = FINDINGS.containsKey(m.group(3)) ? FINDINGS.get(m.group(3)) : Long.parseLong(m.group(3));
        String got = m.group(1) == null ? m.group(2) : m.group(1);
        String made = m.group(1) == null ? "" : "int " + m.group(1) + " = " + m.group(2) + "; ";
        return made + "due.accept(\"README.md: " + m.group(2).replace("\"", "\\\"") + "\", new long[] {" + got + ", "
            + want + "L});";
    }

    private static void calls(Check check, String page) {
        Set<String> face = new TreeSet<>();
        Set<String> names = new TreeSet<>();
        for (Method m : PooledInlaws.class.getDeclaredMethods()) {
            if (Modifier.isPublic(m.getModifiers())) {
                face.add(m.getName() + "/" + m.getParameterCount());
                names.add(m.getName());
            }
        }
        Set<String> rows = new TreeSet<>();
        for (Matcher m = CALL_ROW.matcher(page); m.find();) {
            rows.add(m.group(1) + "/" + (m.group(2).isEmpty() ? 0 : m.group(2).split(",").length));
        }
        check.due("README.md's table of calls", rows.toString(), face.toString());
        Set<String> shown = new TreeSet<>();
        for (Matcher m = BLOCK.matcher(page); m.find();) {
            for (Matcher call = CALL.matcher(m.group(1)); call.find();) {
                shown.add(call.group(1));
            }
        }
        check.due("what README.md shows calls of", shown.toString(), names.toString());
    }

    private static void findings(Check check, String page) {
        int rows = 0;
        for (Matcher m = FINDING_ROW.matcher(page); m.find(); rows++) {
            check.due("README.md knows " + m.group(1), FINDINGS.containsKey(m.group(1)) ? 1 : 0, 1);
            check.due("README.md's " + m.group(1), Long.parseLong(m.group(2)), FINDINGS.getOrDefault(m.group(1), 0));
        }
        check.due("README.md's findings", rows, FINDINGS.size());
    }

    private static void remove(Path directory) throws Exception {
        List<Path> all;
        try (Stream<Path> walk = Files.walk(directory)) {
            all = walk.sorted(Comparator.reverseOrder()).collect(Collectors.toList());
        }
        for (Path path : all) {
            Files.delete(path);
        }
    }
}
