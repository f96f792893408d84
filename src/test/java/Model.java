import java.nio.charset.StandardCharsets;
import java.util.ArrayList;
import java.util.List;
import java.util.function.Consumer;
import java.util.function.ToIntFunction;
import java.util.regex.Matcher;
import java.util.regex.Pattern;

/** The document told a second time, with the whole library, lists, exceptions and new objects all over. */
final class Model {
    static final class Finding extends RuntimeException {
        final int which;
        Finding(int which) {
            super(null, null, false, false);
            this.which = which;
        }
    }

    static class Inlaw {
        int warm = 40, alone, had;
        boolean sat;
        int number() { return 0; }
        int charms(Couple c, State s) { return warm / 10; }
        int does(Couple c, State s) { return 2; }
        int thaws(Couple c) { return 3; }
        int chills(State s) { return 2; }
        boolean isLastOf(Couple c, State s) { return c.last >= 0 && s.inlaws.get(c.last) == this; }
        Inlaw turned(int kind) {
            Inlaw i = make(kind);
            i.warm = warm; i.alone = alone; i.had = had; i.sat = sat;
            return i;
        }
        static Inlaw make(int kind) {
            return kind == 0 ? new Inlaw() : kind == 1 ? new Mother() : kind == 2 ? new Father()
                : kind == 3 ? new Uncle() : kind == 4 ? new Tartar() : new Blesser();
        }
        static Class<?> classOf(int kind) { return make(kind).getClass(); }
    }
    static class Mother extends Inlaw {
        @Override int number() { return 1; }
        @Override int charms(Couple c, State s) { return super.charms(c, s) + (c.loud < 4 ? 3 : 0); }
        @Override int does(Couple c, State s) { return super.does(c, s) - (c.loud >= 7 ? 1 : 0); }
        @Override int thaws(Couple c) { return super.thaws(c) - c.loud / 3; }
        @Override int chills(State s) { return super.chills(s) + 2; }
    }
    static class Father extends Inlaw {
        @Override int number() { return 2; }
        @Override int charms(Couple c, State s) { return super.charms(c, s) + c.loud / 2; }
        @Override int does(Couple c, State s) { return super.does(c, s) + (s.fire >= 10 ? 1 : 0); }
        @Override int chills(State s) { return super.chills(s) - s.fire / 10; }
    }
    static final class Uncle extends Inlaw {
        @Override int number() { return 3; }
        @Override int charms(Couple c, State s) { return 4; }
        @Override int does(Couple c, State s) { return 0; }
        @Override int thaws(Couple c) { return 1; }
        @Override int chills(State s) { return 0; }
    }
    static final class Tartar extends Mother {
        @Override int number() { return 4; }
        @Override int charms(Couple c, State s) { return super.charms(c, s) - 2 + (isLastOf(c, s) ? 9 : 0); }
        @Override int does(Couple c, State s) { return warm >= 60 ? 12 : -4; }
        @Override int thaws(Couple c) { return super.thaws(c) - 2; }
    }
    static final class Blesser extends Father {
        @Override int number() { return 5; }
        @Override int charms(Couple c, State s) { return super.charms(c, s) + s.fire / 5; }
        @Override int does(Couple c, State s) { return super.does(c, s) + 2; }
        @Override int thaws(Couple c) { return 2 * super.thaws(c); }
        @Override int chills(State s) { return Math.max(0, super.chills(s) - 1); }
    }

    static final class Couple {
        int loud, well, last = -1, today = -1;
    }

    static final class State {
        int sunday, fire = 10;
        List<Inlaw> inlaws = new ArrayList<>();
        List<Couple> couples = new ArrayList<>();

        State copy() {
            State s = new State();
            s.sunday = sunday;
            s.fire = fire;
            for (Inlaw i : inlaws) {
                s.inlaws.add(i.turned(i.number()));
            }
            for (Couple c : couples) {
                Couple d = new Couple();
                d.loud = c.loud; d.well = c.well; d.last = c.last;
                s.couples.add(d);
            }
            return s;
        }

        State after(int n) {
            State s = copy();
            for (int k = 0; k < n; k++) {
                s.step();
            }
            return s;
        }

        State after(int n, Consumer<State> first) {
            State s = copy();
            first.accept(s);
            return s.after(n);
        }

        void step() {
            List<Inlaw> free = new ArrayList<>(inlaws);
            for (int k = 0; k < couples.size(); k++) {
                Couple c = couples.get((sunday + k) % couples.size());
                Inlaw best = null;
                for (Inlaw i : free) {
                    if (!i.sat && (best == null || i.charms(c, this) > best.charms(c, this))) {
                        best = i;
                    }
                }
                if (best == null) {
                    c.today = -1;
                    c.well = clamp(c.well - 1, -999, 999);
                } else {
                    free.remove(best);
                    c.today = inlaws.indexOf(best);
                    c.well = clamp(c.well + best.does(c, this), -999, 999);
                    c.last = c.today;
                    best.had = Math.min(9999, best.had + 1);
                    best.warm = clamp(best.warm + best.thaws(c), 0, 99);
                }
            }
            for (Inlaw i : free) {
                i.alone = Math.min(9999, i.alone + 1);
                i.warm = clamp(i.warm - i.chills(this), 0, 99);
            }
            sunday++;
        }

        int wells() { return couples.stream().mapToInt(c -> c.well).sum(); }
        int warms() { return inlaws.stream().mapToInt(i -> i.warm).sum(); }

        Inlaw inlaw(int i) { need(i >= 0 && i < inlaws.size(), Check.BEYOND); return inlaws.get(i); }
        Couple couple(int c) { need(c >= 0 && c < couples.size(), Check.BEYOND); return couples.get(c); }
    }

    static int clamp(int v, int lo, int hi) { return v < lo ? lo : v > hi ? hi : v; }
    static void need(boolean b, int finding) { if (!b) { throw new Finding(finding); } }
    static void within(int v, int lo, int hi) { need(v >= lo && v <= hi, Check.BEYOND); }

    State state = new State();
    State kept;
    byte[] tape = new byte[0];
    final long[][] sheets = new long[4][];
    final int[] bits = new int[4];
    final int[] findings = new int[7];

    /** One call by its name; a finding is answered, and counted. */
    long call(String name, long[] a) {
        try {
            return act(name, a);
        } catch (Finding f) {
            findings[Check.BEYOND - f.which]++;
            return f.which;
        }
    }

    private long act(String name, long[] a) {
        int p = a.length > 0 ? (int) a[0] : 0;
        int q = a.length > 1 ? (int) a[1] : 0;
        int r = a.length > 2 ? (int) a[2] : 0;
        switch (name) {
            case "fire": { within(p, 0, 20); int was = state.fire; state.fire = p; return was; }
            case "now": return now(p);
            case "inlaw": within(p, 0, 5); need(state.inlaws.size() < 8, Check.FULL);
                state.inlaws.add(Inlaw.make(p)); return state.inlaws.size() - 1;
            case "of": return of(state.inlaw(p), q);
            case "with": return with(state.inlaw(p), state.couple(q), r);
            case "set": return set(state.inlaw(p), q, r);
            case "turn": { Inlaw i = state.inlaw(p); within(q, 0, 5); state.inlaws.set(p, i.turned(q)); return i.number(); }
            case "as": { Inlaw i = state.inlaw(p); within(q, 0, 5);
                need(Inlaw.classOf(q).isInstance(i), Check.KIND); return i.warm; }
            case "couple": { within(p, 0, 9); need(state.couples.size() < 8, Check.FULL);
                Couple c = new Couple(); c.loud = p; state.couples.add(c); return state.couples.size() - 1; }
            case "coupleOf": return coupleOf(state.couple(p), p, q);
            case "give": return give(state.couple(p), q, r);
            case "sundays": within(p, 1, 60); need(state.sunday + p <= 9999, Check.STATE);
                state = state.after(p); return state.warms();
            case "on": { state.couple(p); within(q, 0, 100); within(r, 0, 1);
                Couple c = state.after(q).couple(p); return r == 0 ? c.well : c.last; }
            case "then": { state.inlaw(p); within(q, 0, 100); within(r, 0, 2);
                Inlaw i = state.after(q).inlaw(p); return r == 0 ? i.warm : r == 1 ? i.alone : i.had; }
            case "meets": state.couple(p); state.inlaw(q); return first(1, s -> s.couple(p).today == q);
            case "well": state.couple(p); within(q, -999, 999); return first(0, s -> s.couple(p).well >= q);
            case "cold": state.inlaw(p); return first(0, s -> s.inlaw(p).warm == 0);
            case "kind": state.inlaw(p); within(q, 1, 60);
                return best(0, 5, k -> state.after(q, s -> s.inlaws.set(p, s.inlaw(p).turned(k))).inlaw(p).had);
            case "warm": state.inlaw(p); within(q, 1, 60); within(r, 0, 9999); return warm(p, q, r);
            case "sit": return sit(p);
            case "loud": state.couple(p); within(q, 1, 60);
                return best(0, 9, l -> state.after(q, s -> s.couple(p).loud = l).couple(p).well);
            case "stoke": within(p, 1, 60); return best(0, 20, f -> state.after(p, s -> s.fire = f).warms());
            case "lonely": { within(p, 0, 100); need(!state.inlaws.isEmpty(), Check.NONE);
                State s = state.after(p); return best(0, s.inlaws.size() - 1, i -> s.inlaw(i).alone); }
            case "feed": return feed(p, q);
            case "wipe": { int n = tape.length; tape = new byte[0]; return n; }
            case "institute": return institute();
            case "sheet": return sheet(p, q, r);
            case "write": return write(p, q, a[2]);
            case "copy": return copy(p, q, r, (int) a[3], (int) a[4]);
            case "lays": return lays(p);
            case "book": { long[] row = row(p); state.couple(q);
                for (int i = 0; i < row.length; i++) { row[i] = cut(bits[p], state.after(i).couple(q).well); }
                return row.length; }
            case "read": return read(p, q, r);
            case "image": kept = state.copy(); return 1;
            case "undo": need(kept != null, Check.NONE); state = kept.copy(); return state.inlaws.size();
            case "tear": { int was = kept == null ? 0 : 1; kept = null; return was; }
            case "count": within(p, 0, 3); return p == 0 ? state.inlaws.size() : p == 1 ? state.couples.size()
                : p == 2 ? tape.length : state.inlaws.stream().mapToInt(i -> i.had).sum();
            case "status": { within(p, -1, 6); int all = 0;
                for (int f : findings) { all += f; }
                return p < 0 ? all : findings[p]; }
            default: throw new IllegalStateException(name);
        }
    }

    private int now(int what) {
        within(what, 0, 5);
        int set = 0;
        for (int i = 0; i < state.inlaws.size(); i++) {
            set += state.inlaws.get(i).sat ? 1 << i : 0;
        }
        int first = state.couples.isEmpty() ? -1 : state.sunday % state.couples.size();
        return new int[] {state.sunday, state.fire, first, set, 10000 + state.wells(), state.warms()}[what];
    }

    private int of(Inlaw i, int what) {
        within(what, 0, 5);
        return new int[] {i.number(), i.warm, i.sat ? 1 : 0, i.alone, i.had, i.chills(state)}[what];
    }

    private int with(Inlaw i, Couple c, int what) {
        within(what, 0, 2);
        return new int[] {i.charms(c, state), 100 + i.does(c, state), 100 + i.thaws(c)}[what];
    }

    private int set(Inlaw i, int what, int v) {
        within(what, 1, 4);
        within(v, 0, new int[] {0, 99, 1, 9999, 9999}[what]);
        int was = of(i, what);
        if (what == 1) { i.warm = v; }
        if (what == 2) { i.sat = v == 1; }
        if (what == 3) { i.alone = v; }
        if (what == 4) { i.had = v; }
        return was;
    }

    private int coupleOf(Couple c, int number, int what) {
        within(what, 0, 3);
        return new int[] {c.loud, 10000 + c.well, c.last, state.after(1).couple(number).today}[what];
    }

    private int give(Couple c, int what, int v) {
        within(what, 0, 2);
        within(v, new int[] {0, -999, -1}[what], new int[] {9, 999, state.inlaws.size() - 1}[what]);
        int was = new int[] {c.loud, c.well, c.last}[what];
        if (what == 0) { c.loud = v; }
        if (what == 1) { c.well = v; }
        if (what == 2) { c.last = v; }
        return was;
    }

    private int first(int from, java.util.function.Predicate<State> p) {
        State s = state.after(from);
        for (int n = from; n <= 100; n++, s.step()) {
            if (p.test(s)) {
                return n;
            }
        }
        throw new Finding(Check.NONE);
    }

    private static int best(int from, int to, ToIntFunction<Integer> f) {
        int best = from;
        for (int k = from + 1; k <= to; k++) {
            best = f.applyAsInt(k) > f.applyAsInt(best) ? k : best;
        }
        return best;
    }

    private int warm(int inlaw, int n, int v) {
        for (int w = 0; w <= 99; w++) {
            int warm = w;
            if (state.after(n, s -> s.inlaw(inlaw).warm = warm).inlaw(inlaw).had >= v) {
                return w;
            }
        }
        throw new Finding(Check.NONE);
    }

    private int sit(int n) {
        within(n, 1, 60);
        int best = -1;
        int most = Integer.MIN_VALUE;
        for (int i = 0; i < state.inlaws.size(); i++) {
            int one = i;
            int wells = state.after(n, s -> s.inlaw(one).sat = true).wells();
            if (!state.inlaw(i).sat && wells > most) {
                best = i;
                most = wells;
            }
        }
        need(best >= 0, Check.NONE);
        return best;
    }

    private int feed(int bytes, int n) {
        within(n, 1, 4);
        need(tape.length + n <= 120, Check.FULL);
        byte[] four = {(byte) (bytes >>> 24), (byte) (bytes >>> 16), (byte) (bytes >>> 8), (byte) bytes};
        byte[] t = java.util.Arrays.copyOf(tape, tape.length + n);
        System.arraycopy(four, 4 - n, t, tape.length, n);
        tape = t;
        return t.length;
    }

    private static final Pattern TOKEN = Pattern.compile("[a-z]+|[0-9]+|;|[^ ]");

    private static final class Fault extends RuntimeException {
        Fault() { super(null, null, false, false); }
    }

    private List<String> tokens;
    private List<Integer> places;
    private int at;

    private int institute() {
        String text = new String(tape, StandardCharsets.ISO_8859_1);
        tape = new byte[0];
        tokens = new ArrayList<>();
        places = new ArrayList<>();
        for (Matcher m = TOKEN.matcher(text); m.find();) {
            tokens.add(m.group());
            places.add(m.start());
        }
        tokens.add("");
        places.add(text.length());
        at = 0;
        State s = state.copy();
        try {
            int items = 1;
            for (item(s); !peek().isEmpty(); item(s)) {
                expect(peek().equals(";"));
                at++;
                items++;
            }
            state = s;
            return items;
        } catch (Fault f) {
            return -1 - places.get(at);
        }
    }

    private static final List<String> NAMES = List.of("inlaw", "mother", "father", "uncle", "tartar", "blesser");

    private void item(State s) {
        int kind = NAMES.indexOf(peek());
        if (kind >= 0) {
            expect(s.inlaws.size() < 8);
            at++;
            Inlaw i = Inlaw.make(kind);
            s.inlaws.add(i);
            i.warm = optional("warm") ? number(99) : 40;
            i.sat = optional("sat");
        } else if (peek().equals("couple")) {
            expect(s.couples.size() < 8);
            at++;
            Couple c = new Couple();
            s.couples.add(c);
            c.loud = number(9);
            c.last = optional("had") ? number(s.inlaws.size() - 1) : -1;
        } else if (optional("fire")) {
            s.fire = number(20);
        } else {
            expect(optional("sit"));
            s.inlaws.get(number(s.inlaws.size() - 1)).sat = true;
        }
    }

    private String peek() { return tokens.get(at); }
    private void expect(boolean b) { if (!b) { throw new Fault(); } }
    private boolean optional(String word) {
        boolean is = peek().equals(word);
        at += is ? 1 : 0;
        return is;
    }
    private int number(int most) {
        expect(peek().matches("0*[0-9]{1,3}"));
        int v = Integer.parseInt(peek().replaceFirst("^0+(?=.)", ""));
        expect(v <= most);
        at++;
        return v;
    }

    private long[] row(int s) {
        within(s, 0, 3);
        need(sheets[s] != null, Check.MISSING);
        return sheets[s];
    }

    static long cut(int bits, long v) { return bits == 8 ? (byte) v : bits == 16 ? (short) v : v; }

    private int sheet(int s, int b, int n) {
        within(s, 0, 3);
        need(List.of(0, 8, 16, 64).contains(b), Check.BEYOND);
        need(n >= 0, Check.SIZE);
        need(n <= 40, Check.BEYOND);
        bits[s] = b;
        sheets[s] = b == 0 ? null : new long[n];
        return b == 0 ? 0 : n;
    }

    private long write(int s, int i, long v) {
        long[] row = row(s);
        within(i, 0, row.length - 1);
        long was = row[i];
        row[i] = cut(bits[s], v);
        return was;
    }

    private int copy(int s, int from, int t, int to, int n) {
        within(s, 0, 3);
        within(t, 0, 3);
        long[] source = row(s);
        long[] target = row(t);
        need(bits[s] == bits[t], Check.KIND);
        need(from >= 0 && to >= 0 && n >= 0, Check.BEYOND);
        need((long) from + n <= source.length && (long) to + n <= target.length, Check.BEYOND);
        long[] before = source.clone();
        for (int k = 0; k < n; k++) {
            target[to + k] = before[from + k];
        }
        return n;
    }

    private int lays(int s) {
        long[] row = row(s);
        int came = 0;
        for (int i = 0; i < Math.min(row.length, state.inlaws.size()); i++) {
            if (row[i] >= 0 && row[i] <= 99) {
                state.inlaws.get(i).warm = (int) row[i];
                came++;
            }
        }
        return came;
    }

    private int read(int s, int couple, int inlaw) {
        long[] row = row(s);
        state.couple(couple);
        state.inlaw(inlaw);
        int pairs = 0;
        for (int k = 0; k < 6; k++) {
            for (int l = 0; l < 10; l++) {
                State t = state.copy();
                t.inlaws.set(inlaw, t.inlaw(inlaw).turned(k));
                t.couple(couple).loud = l;
                boolean same = true;
                for (long v : row) {
                    same &= t.couple(couple).well == v;
                    t.step();
                }
                pairs += same ? 1 : 0;
            }
        }
        return pairs;
    }
}
