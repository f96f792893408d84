import java.lang.reflect.Constructor;
import java.lang.reflect.Field;
import java.lang.reflect.Method;
import java.lang.reflect.Modifier;
import java.nio.file.Files;
import java.nio.file.Path;
import java.util.Arrays;
import java.util.Set;
import java.util.TreeSet;
import java.util.regex.Matcher;
import java.util.regex.Pattern;

/** The face is just the document's, and the file keeps to those rules of LANGUAGE.md that a look can tell. */
public final class FaceTest {
    private static final String[] FACE = {
        "int fire(int)", "int now(int)", "int inlaw(int)", "int of(int,int)", "int with(int,int,int)",
        "int set(int,int,int)", "int turn(int,int)", "int as(int,int)", "int couple(int)",
        "int coupleOf(int,int)", "int give(int,int,int)", "int sundays(int)", "int on(int,int,int)",
        "int then(int,int,int)", "int meets(int,int)", "int well(int,int)", "int cold(int)",
        "int kind(int,int)", "int warm(int,int,int)", "int sit(int)", "int loud(int,int)",
        "int stoke(int)", "int lonely(int)", "int feed(int,int)", "int wipe()", "int institute()",
        "int sheet(int,int,int)", "long write(int,int,long)", "int copy(int,int,int,int,int)",
        "int lays(int)", "int book(int,int)", "int read(int,int,int)", "int image()", "int undo()",
        "int tear()", "int count(int)", "int status(int)"};

    private static final String[] RULED_OUT = {
        "throw", "throws", "try", "catch", "synchronized", "assert", "->", "::", "Exact", "Object",
        "hashCode", "toString", "System\\.out", "Random", "Thread"};

    public static void main(String[] args) throws Exception {
        Check check = new Check();
        face(check);
        language(check);
        check.end();
    }

    private static void face(Check check) {
        Class<PooledInlaws> c = PooledInlaws.class;
        Set<String> got = new TreeSet<>();
        Set<String> publicNames = new TreeSet<>();
        for (Method m : c.getDeclaredMethods()) {
            if (!Modifier.isPrivate(m.getModifiers())) {
                got.add(m.getReturnType() + " " + m.getName()
                    + Arrays.toString(m.getParameterTypes()).replace(" ", "").replace('[', '(').replace(']', ')'));
                publicNames.add(m.getName());
                check.due(m.getName() + " public", Modifier.isPublic(m.getModifiers()) ? 1 : 0, 1);
                check.due(m.getName() + " static", Modifier.isStatic(m.getModifiers()) ? 1 : 0, 0);
            }
        }
        check.due("the face", got.toString(), new TreeSet<>(Arrays.asList(FACE)).toString());
        check.due("class", Modifier.toString(c.getModifiers()), "public final");
        for (Constructor<?> k : c.getDeclaredConstructors()) {
            check.due("constructor", k.toString(), "public PooledInlaws()");
        }
        check.due("constructors", c.getDeclaredConstructors().length, 1);
        for (Field f : c.getDeclaredFields()) {
            check.due(f.getName() + " private", Modifier.isPrivate(f.getModifiers()) ? 1 : 0, 1);
        }
        privateNames(check, c, publicNames);
        for (Class<?> inner : c.getDeclaredClasses()) {
            check.due(inner.getName() + " static", Modifier.isStatic(inner.getModifiers()) ? 1 : 0, 1);
            privateNames(check, inner, publicNames);
        }
    }

    private static void privateNames(Check check, Class<?> c, Set<String> publicNames) {
        for (Method m : c.getDeclaredMethods()) {
            if (!Modifier.isPublic(m.getModifiers())) {
                check.due("a public name is borne by " + m, publicNames.contains(m.getName()) ? 1 : 0, 0);
            }
            check.due("parameters of " + m, m.getParameterCount() <= 7 ? 1 : 0, 1);
        }
        int fields = 0;
        for (Field f : c.getDeclaredFields()) {
            boolean isStatic = Modifier.isStatic(f.getModifiers());
            check.due(f + " static and not final", isStatic && !Modifier.isFinal(f.getModifiers()) ? 1 : 0, 0);
            fields += isStatic ? 0 : 1;
        }
        check.due("fields of " + c.getName(), fields <= 20 ? 1 : 0, 1);
    }

    private static void language(Check check) throws Exception {
        String source = Files.readString(Path.of("src/main/java/PooledInlaws.java"));
        String code = source.replaceAll("(?s)/\\*.*?\\*/", "").replaceAll("//.*", "");
        for (String word : RULED_OUT) {
            boolean isName = Character.isLetter(word.charAt(0));
            Matcher m = Pattern.compile(isName ? "\\b" + word + "\\b" : word).matcher(code);
            check.due("uses of " + word, m.find() ? 1 : 0, 0);
        }
        Matcher imports = Pattern.compile("import [^;]*;").matcher(code);
        while (imports.find()) {
            check.due("an import", imports.group(), "import java.util.Arrays;");
        }
        check.due("package line", Pattern.compile("(?m)^package").matcher(code).find() ? 1 : 0, 0);
    }
}
