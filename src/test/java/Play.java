import java.lang.reflect.InvocationTargetException;
import java.lang.reflect.Method;
import java.lang.reflect.Modifier;
import java.util.ArrayList;
import java.util.HashMap;
import java.util.List;
import java.util.Map;
import java.util.regex.Matcher;
import java.util.regex.Pattern;

/**
 * A run of calls on one object, told as a text: "fire(20)=10 fire(21)=BEYOND on(0,1,0)==2 image()".
 * With = and a number the call answers that; with = and the name of a finding it is refused, and then all is
 * looked at: nothing but status() may have changed. With == nothing at all may have changed. A call alone is an act
 * whose answer is not looked at.
 */
final class Play {
    private static final Pattern STEP = Pattern.compile("(\\w+)\\(([^)]*)\\)(?:(==?)(\\S+))?");
    private static final List<String> FINDINGS = List.of("BEYOND", "FULL", "KIND", "NONE", "STATE", "MISSING", "SIZE");
    private static final Map<String, Method> FACE = face();

    private record Call(String name, long[] arguments) { }

    private final Check check;
    private final String sentence;
    private final PooledInlaws x = new PooledInlaws();
    /** Every call so far, so that the object can be made again. */
    private final List<Call> calls = new ArrayList<>();
    private final int[] due = new int[FINDINGS.size()];

    Play(Check check, String sentence) {
        this.check = check;
        this.sentence = sentence;
    }

    Play play(String run) {
        for (String step : run.trim().split("\\s+")) {
            step(step);
        }
        return this;
    }

    /** Feeds a TEXT to the empty TAPE, and tells it: so many ITEMS. */
    Play text(String text, int items) {
        feed(text);
        step("institute()=" + items);
        return this;
    }

    /** The same with a FAULT: nothing changes but that THE TAPE is empty, and it is no finding. */
    Play fault(String text, int place) {
        List<Call> before = new ArrayList<>(calls);
        feed(text);
        step("institute()=" + (-1 - place));
        before.add(new Call("wipe", new long[0]));
        same("the FAULT of '" + text + "'", before, -1);
        return this;
    }

    Play feed(String text) {
        for (int i = 0; i < text.length(); i += 4) {
            int n = Math.min(4, text.length() - i);
            int bytes = 0;
            for (int k = 0; k < n; k++) {
                bytes = bytes << 8 | text.charAt(i + k);
            }
            step("feed(" + bytes + "," + n + ")");
        }
        return this;
    }

    Play all(String want) {
        check.due(sentence + ": all", Check.all(x), want);
        return this;
    }

    /** What the object counted is what the run was due to find, and nothing else. */
    void end() {
        for (int f = 0; f < due.length; f++) {
            check.due(sentence + ": status(" + f + ") at the end", x.status(f), due[f]);
        }
    }

    private void step(String step) {
        Matcher m = STEP.matcher(step);
        if (!m.matches() || !FACE.containsKey(m.group(1))) {
            throw new IllegalArgumentException("a test's own step: " + step);
        }
        Call call = new Call(m.group(1), numbers(m.group(2)));
        List<Call> before = new ArrayList<>(calls);
        calls.add(call);
        long got = invoke(x, call);
        if (m.group(4) == null) {
            return;
        }
        int finding = FINDINGS.indexOf(m.group(4));
        long want = finding >= 0 ? Check.BEYOND - finding : Long.parseLong(m.group(4));
        check.due(sentence + ": " + m.group(1) + "(" + m.group(2) + ")", got, want);
        if (finding >= 0) {
            due[finding]++;
        }
        if (finding >= 0 || m.group(3).equals("==")) {
            same(step, before, finding);
        }
    }

    private void same(String what, List<Call> before, int finding) {
        PooledInlaws was = replay(before);
        PooledInlaws is = replay(calls);
        for (int f = 0; f < due.length; f++) {
            int more = f == finding ? 1 : 0;
            check.due(sentence + ": status(" + f + ") by " + what, is.status(f), was.status(f) + more);
        }
        check.due(sentence + ": status(-1) by " + what, is.status(-1), was.status(-1) + (finding >= 0 ? 1 : 0));
        check.due(sentence + ": nothing changes by " + what, whole(is), whole(was));
    }

    /** All that there is, but for status(), told by using it up: the object is of no use behind it. */
    private static String whole(PooledInlaws x) {
        StringBuilder b = new StringBuilder(Check.all(x));
        for (int s = 0; s <= 3; s++) {
            b.append(" sheet ").append(s).append(':');
            for (int i = 0; i <= 40; i++) {
                int found = x.status(-1);
                b.append(' ').append(x.write(s, i, 0x1234567887654321L));
                if (x.status(-1) != found) {
                    break;
                }
                b.append('.').append(x.write(s, i, 0));
            }
        }
        b.append(" text: ").append(x.institute()).append(' ').append(Check.all(x));
        return b.append(" image: ").append(x.undo()).append(' ').append(Check.all(x)).toString();
    }

    private static PooledInlaws replay(List<Call> calls) {
        PooledInlaws y = new PooledInlaws();
        for (Call call : calls) {
            invoke(y, call);
        }
        return y;
    }

    private static long invoke(PooledInlaws x, Call call) {
        Method m = FACE.get(call.name);
        Object[] a = new Object[call.arguments.length];
        for (int i = 0; i < a.length; i++) {
            if (m.getParameterTypes()[i] == long.class) {
                a[i] = call.arguments[i];
            } else {
                a[i] = Math.toIntExact(call.arguments[i]);
            }
        }
        try {
            return ((Number) m.invoke(x, a)).longValue();
        } catch (InvocationTargetException e) {
            throw new IllegalStateException(call.name + " threw", e.getCause());
        } catch (IllegalAccessException e) {
            throw new IllegalStateException(e);
        }
    }

    private static long[] numbers(String list) {
        if (list.isEmpty()) {
            return new long[0];
        }
        String[] each = list.split(",");
        long[] a = new long[each.length];
        for (int i = 0; i < a.length; i++) {
            a[i] = Long.parseLong(each[i]);
        }
        return a;
    }

    private static Map<String, Method> face() {
        Map<String, Method> face = new HashMap<>();
        for (Method m : PooledInlaws.class.getDeclaredMethods()) {
            if (Modifier.isPublic(m.getModifiers())) {
                face.put(m.getName(), m);
            }
        }
        return face;
    }
}
