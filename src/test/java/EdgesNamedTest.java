import java.lang.reflect.Method;
import java.util.Set;
import java.util.TreeSet;

/** Each promise, and the terms, has a test of an edge that names it. */
public final class EdgesNamedTest {
    private static final Class<?>[] TESTS = {
        TermsEdgeTest.class, InstituteEdgeTest.class, InlawEdgeTest.class, CoupleEdgeTest.class, SundayEdgeTest.class,
        BestEdgeTest.class, TextEdgeTest.class, SheetEdgeTest.class, ImageEdgeTest.class};

    public static void main(String[] args) {
        Check check = new Check();
        Set<String> named = new TreeSet<>();
        for (Class<?> tests : TESTS) {
            for (Method m : Edges.sentencesOf(tests)) {
                named.add(m.getName().substring(0, m.getName().indexOf('_')));
            }
        }
        for (int promise = 1; promise <= 38; promise++) {
            String name = "promise" + (promise < 10 ? "0" : "") + promise;
            check.due(name + " is named", named.contains(name) ? 1 : 0, 1);
        }
        check.due("terms are named", named.contains("terms") ? 1 : 0, 1);
        check.due("and no other", named.size(), 39);
        check.end();
    }
}
