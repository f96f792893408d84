import java.lang.reflect.Constructor;
import java.lang.reflect.Field;
import java.lang.reflect.Method;
import java.lang.reflect.Modifier;
import java.nio.file.Files;
import java.nio.file.Path;
import java.util.ArrayList;
import java.util.Arrays;
import java.util.HashMap;
import java.util.List;
import java.util.Map;
import java.util.Set;
import java.util.TreeSet;
import java.util.regex.Matcher;
import java.util.regex.Pattern;

/** The face is just the document's, and the file keeps to those rules of LANGUAGE.md that a look can tell. */
public final class FaceTest {
    private static final String[] FACE = {
        "int fire(int)", "int now(int)", "int inlaw(int)", "int of(int,int)", "int with(int,int,int)",
        "int set(int,int,int)", "int turn(int,int)", "int as(int,int)", "int couple(int)",
        "int coupleOf(int,int)", "int give(int,int,int)", "int sundays(int)", "int on(int,int,int)",
        "int then(int,int,int)", "int meets(int,int)", "int well(int,int)", "int cold(int)",
        "int kind(int,int)", "int warm(int,int,int)", "int sit(int)", "int loud(int,int)",
        "int stoke(int)", "int lonely(int)", "int feed(int,int)", "int wipe()", "int institute()",
        "int sheet(int,int,int)", "long write(int,int,long)", "int copy(int,int,int,int,int)",
        "int lays(int)", "int book(int,int)", "int read(int,int,int)", "int image()", "int undo()",
        "int tear()", "int count(int)", "int status(int)"};

    private static final String[] RULED_OUT = {
        "throw", "throws", "try", "catch", "synchronized", "assert", "->", "::", "Exact", "Object",
        "hashCode", "toString", "System\\.out", "Random", "Thread"};

    private static final Set<String> LIBRARY = Set.of("Math.max", "Math.min", "Arrays.fill", "System.arraycopy");

    /** In the document: a member of the face; a heading with the first call that it stands ahead of. */
    private static final Pattern TOLD = Pattern.compile("(?m)^    (public (?:int |long )?(\\w+)\\([^)]*\\));$");
    private static final Pattern AHEAD_OF =
        Pattern.compile("(?m)^Ahead of the calls `(\\w+)`.* the interface says: (---- .*)\\.$");
    /** In the file: the same. */
    private static final Pattern STANDS =
        Pattern.compile("(?m)^    (public (?:int |long )?\\w+\\([^)]*\\)|// ---- .*?)(?: \\{)?$");

    /** The first line of a method or a constructor, by how far it stands in. */
    private static final Pattern METHOD =
        Pattern.compile(" {4,8}(?!if|for|while|switch)\\w[\\w \\[\\]]*\\([\\w ,\\[\\]]*\\) \\{");

    public static void main(String[] args) throws Exception {
        Check check = new Check();
        face(check);
        interfaceAsTold(check);
        language(check);
        sizes(check);
        newOnesInConstructorsOnly(check);
        check.end();
    }

    private static void face(Check check) {
        Class<PooledInlaws> c = PooledInlaws.class;
        Set<String> got = new TreeSet<>();
        Set<String> publicNames = new TreeSet<>();
        for (Method m : c.getDeclaredMethods()) {
            if (!Modifier.isPrivate(m.getModifiers())) {
                got.add(m.getReturnType() + " " + m.getName()
                    + Arrays.toString(m.getParameterTypes()).replace(" ", "").replace('[', '(').replace(']', ')'));
                publicNames.add(m.getName());
                check.due(m.getName() + " public", Modifier.isPublic(m.getModifiers()) ? 1 : 0, 1);
                check.due(m.getName() + " static", Modifier.isStatic(m.getModifiers()) ? 1 : 0, 0);
            }
        }
        check.due("the face", got.toString(), new TreeSet<>(Arrays.asList(FACE)).toString());
        check.due("class", Modifier.toString(c.getModifiers()), "public final");
        for (Constructor<?> k : c.getDeclaredConstructors()) {
            check.due("constructor", k.toString(), "public PooledInlaws()");
        }
        check.due("constructors", c.getDeclaredConstructors().length, 1);
        for (Field f : c.getDeclaredFields()) {
            check.due(f.getName() + " private", Modifier.isPrivate(f.getModifiers()) ? 1 : 0, 1);
        }
        privateNames(check, c, publicNames);
        for (Class<?> inner : c.getDeclaredClasses()) {
            check.due(inner.getName() + " static", Modifier.isStatic(inner.getModifiers()) ? 1 : 0, 1);
            privateNames(check, inner, publicNames);
        }
    }

    /** The document's face and the headings that it tells, in its order, stand so in the file. */
    private static void interfaceAsTold(Check check) throws Exception {
        String document = Files.readString(Path.of("../shared/DOC.md"));
        Map<String, String> headings = new HashMap<>();
        for (Matcher m = AHEAD_OF.matcher(document); m.find();) {
            headings.put(m.group(1), "// " + m.group(2));
        }
        List<String> told = new ArrayList<>();
        for (Matcher m = TOLD.matcher(document); m.find();) {
            if (headings.containsKey(m.group(2))) {
                told.add(headings.remove(m.group(2)));
            }
            told.add(m.group(1));
        }
        check.due("headings of no call", headings.toString(), "{}");
        List<String> stands = new ArrayList<>();
        String source = Files.readString(Path.of("src/main/java/PooledInlaws.java"));
        for (Matcher m = STANDS.matcher(source); m.find();) {
            stands.add(m.group(1));
        }
        // Behind the face the file has a heading of its own for what is private.
        check.due("the interface", String.join("\n", stands.subList(0, Math.min(told.size(), stands.size()))),
            String.join("\n", told));
        check.due("calls of the document", told.stream().filter(t -> t.startsWith("public ")).count(), FACE.length + 1);
    }

    private static void privateNames(Check check, Class<?> c, Set<String> publicNames) {
        for (Method m : c.getDeclaredMethods()) {
            if (!Modifier.isPublic(m.getModifiers())) {
                check.due("a public name is borne by " + m, publicNames.contains(m.getName()) ? 1 : 0, 0);
            }
            check.due("parameters of " + m, m.getParameterCount() <= 7 ? 1 : 0, 1);
        }
        int fields = 0;
        for (Field f : c.getDeclaredFields()) {
            boolean isStatic = Modifier.isStatic(f.getModifiers());
            check.due(f + " static and not final", isStatic && !Modifier.isFinal(f.getModifiers()) ? 1 : 0, 0);
            fields += isStatic ? 0 : 1;
        }
        check.due("fields of " + c.getName(), fields <= 20 ? 1 : 0, 1);
    }

    /** The file without its comments, its lines kept. */
    private static String code() throws Exception {
        String source = Files.readString(Path.of("src/main/java/PooledInlaws.java"));
        return source.replaceAll("/\\*\\*.*?\\*/", "").replaceAll("(?m)^ *(/\\*\\*|\\* |\\*/).*$", "")
            .replaceAll("//.*", "");
    }

    private static void language(Check check) throws Exception {
        String code = code();
        for (String word : RULED_OUT) {
            boolean isName = Character.isLetter(word.charAt(0));
            Matcher m = Pattern.compile(isName ? "\\b" + word + "\\b" : word).matcher(code);
            check.due("uses of " + word, m.find() ? 1 : 0, 0);
        }
        Matcher imports = Pattern.compile("import [^;]*;").matcher(code);
        while (imports.find()) {
            check.due("an import", imports.group(), "import java.util.Arrays;");
        }
        check.due("package line", Pattern.compile("(?m)^package").matcher(code).find() ? 1 : 0, 0);
        String owners = "Math|Arrays|System|Integer|Long|String|StringBuilder|List";
        Matcher library = Pattern.compile("\\b(" + owners + ")\\.\\w+").matcher(code);
        while (library.find()) {
            check.due(library.group() + " of the library", LIBRARY.contains(library.group()) ? 1 : 0, 1);
        }
        check.due("signs beyond 127", code.chars().anyMatch(c -> c > 127) ? 1 : 0, 0);
    }

    /** Rule 11: methods of some sixty lines, some twelve classes. */
    private static void sizes(Check check) throws Exception {
        int start = 0;
        int classes = 0;
        String[] lines = code().split("\n");
        for (int i = 0; i < lines.length; i++) {
            classes += lines[i].matches(".*\\bclass \\w+ \\{") ? 1 : 0;
            if (METHOD.matcher(lines[i]).matches()) {
                start = i;
            } else if (lines[i].matches(" {4,8}\\}") && i - start > 60) {
                check.due("lines of the method ending at line " + (i + 1), i - start, 60);
            }
            start = lines[i].matches(" {4,8}\\}") ? i : start;
        }
        check.due("twelve classes at most", classes <= 12 ? 1 : 0, 1);
    }

    /** Rule 12, and the one room for all calls: rows are made once, and no call makes an object. */
    private static void newOnesInConstructorsOnly(Check check) throws Exception {
        String method = "";
        for (String line : code().split("\n")) {
            method = METHOD.matcher(line).matches() ? line.trim() : method;
            boolean isConstructor = method.matches("(public )?(PooledInlaws|Hall|Tape|Sheet)\\(\\) \\{");
            check.due("made in " + method + " " + line.trim(), line.contains("new ") && !isConstructor ? 1 : 0, 0);
        }
    }
}
