import java.lang.reflect.Method;
import java.util.ArrayList;
import java.util.Arrays;
import java.util.Comparator;
import java.util.List;

/**
 * What a test of one sentence is handed. Such a test is a static method of a class whose name ends with EdgeTest; its
 * own name begins with promise and the promise's two digits, or with terms, and says the sentence.
 */
final class Edges {
    private final Check check;
    private final String sentence;
    private final List<Play> plays = new ArrayList<>();

    private Edges(Check check, String sentence) {
        this.check = check;
        this.sentence = sentence;
    }

    static void run(Class<?> tests) throws Exception {
        Check check = new Check();
        for (Method m : sentencesOf(tests)) {
            Edges edges = new Edges(check, m.getName());
            m.setAccessible(true);
            m.invoke(null, edges);
            for (Play play : edges.plays) {
                play.end();
            }
        }
        check.end();
    }

    static List<Method> sentencesOf(Class<?> tests) {
        List<Method> all = new ArrayList<>(Arrays.asList(tests.getDeclaredMethods()));
        all.removeIf(m -> !m.getName().matches("(promise[0-9]{2}|terms)_\\w+"));
        all.sort(Comparator.comparing(Method::getName));
        return all;
    }

    /** A new object. */
    Play made() {
        Play play = new Play(check, sentence);
        plays.add(play);
        return play;
    }

    /** A new object to which a TEXT was told. */
    Play told(String text) {
        return made().feed(text).play("institute()=" + text.split(";").length);
    }

    /**
     * One that has something of everything, so that a call can't change a thing unseen: IN-LAWS 0 to 2, COUPLES 0
     * and 1, SHEETS 0 (8 bits, 3 numbers), 1 (16 bits, 2), 2 (64 bits, 4), 3 MISSING, 6 bytes on THE TAPE, an image.
     */
    Play some() {
        return told("mother warm 57 sat; tartar warm 61; uncle; couple 3 had 1; couple 8; fire 4")
            .play("image() sundays(2) set(0,3,8) set(1,4,7) give(0,1,-77) fire(3)")
            .play("sheet(0,8,3) write(0,0,1) write(0,1,-2) write(0,2,3)")
            .play("sheet(1,16,2) write(1,0,300) write(1,1,-300) sheet(2,64,4) write(2,0,5000000000)")
            .feed("fire 7");
    }

    /** So many IN-LAWS of KIND 0, and so many COUPLES of LOUD 5. */
    Play crowd(int inlaws, int couples) {
        return made().play("inlaw(0) ".repeat(inlaws) + "now(0) " + "couple(5) ".repeat(couples));
    }

    /** SUNDAY comes to 60 times this. */
    static String sixties(int times) {
        return "sundays(60) ".repeat(times);
    }

    void due(String what, long got, long want) {
        check.due(sentence + ": " + what, got, want);
    }
}
