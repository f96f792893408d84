import java.lang.reflect.Method;
import java.util.ArrayList;
import java.util.Arrays;
import java.util.Comparator;
import java.util.List;
import java.util.Random;

/** Long runs of calls, drawn from fixed seeds, answered by the class just as by the Model. */
public final class ModelTest {
    private static final String[] WORDS = {
        "inlaw", "mother", "father", "uncle", "tartar", "blesser", "couple", "couple", "couple", "fire", "sit",
        "warm", "sat", "had", ";", "0", "3", "7", "12", "20", "21", "99", "100", "1000", "0004",
        "99999999999", "x", "couples", "?", "A", "\u00e9", "\u0000"};
    private static final int[] WILD = {Integer.MIN_VALUE, Integer.MAX_VALUE, -1, -2, 61, 101, 256, -1000, 10000};

    public static void main(String[] args) throws Exception {
        Method[] methods = PooledInlaws.class.getDeclaredMethods();
        List<Method> face = new ArrayList<>();
        for (Method m : methods) {
            if (java.lang.reflect.Modifier.isPublic(m.getModifiers())) {
                face.add(m);
            }
        }
        // The order that reflection tells is not fixed, and the runs are to be the same each time.
        face.sort(Comparator.comparing(Method::getName));
        int runs = args.length > 0 ? Integer.parseInt(args[0]) : 400;
        for (int seed = 1; seed <= runs; seed++) {
            if (!run(face, new Random(seed), seed)) {
                System.exit(1);
            }
        }
    }

    private static boolean run(List<Method> face, Random random, int seed) throws Exception {
        PooledInlaws x = new PooledInlaws();
        Model model = new Model();
        boolean tame = random.nextInt(4) != 0;
        if (random.nextInt(3) != 0) {
            people(x, model, random);
        }
        for (int call = 0; call < 400; call++) {
            Method m = face.get(random.nextInt(face.size()));
            String name = m.getName();
            if ((name.equals("warm") || name.equals("tear")) && random.nextInt(3) != 0) {
                continue;
            }
            if (name.equals("institute")) {
                feedText(x, model, random);
            }
            long[] a = arguments(m, random, tame);
            long got = invoke(m, x, a);
            long want = model.call(name, a);
            if (got != want) {
                System.out.println("seed " + seed + ", call " + call + ": " + name + Arrays.toString(a)
                    + " answered " + got + ", due is " + want);
                return false;
            }
            if (!stateOf(x).equals(stateOf(model))) {
                System.out.println("seed " + seed + ", call " + call + ": behind " + name + Arrays.toString(a)
                    + " stands " + stateOf(x) + ", due is " + stateOf(model));
                return false;
            }
        }
        return true;
    }

    private static void people(PooledInlaws x, Model model, Random random) {
        for (int i = 0; i < 2 + random.nextInt(7); i++) {
            int kind = random.nextInt(6);
            x.inlaw(kind);
            model.call("inlaw", new long[] {kind});
            int loud = random.nextInt(10);
            x.couple(loud);
            model.call("couple", new long[] {loud});
        }
    }

    private static long[] arguments(Method m, Random random, boolean tame) {
        int n = m.getParameterCount();
        long[] a = new long[n];
        for (int i = 0; i < n; i++) {
            a[i] = random.nextInt(tame ? 40 : 6) == 0 ? WILD[random.nextInt(WILD.length)] : usual(m.getName(), i, random);
        }
        if (m.getName().equals("set")) {
            int[] most = {2, 101, 3, 10001, 10001, 2};
            a[2] = a[1] >= 0 && a[1] <= 5 && random.nextInt(8) != 0 ? random.nextInt(most[(int) a[1]]) : a[2];
        }
        return a;
    }

    private static long usual(String name, int i, Random random) {
        switch (name + i) {
            case "fire0": return random.nextInt(22);
            case "now0": case "of1": case "status0": return random.nextInt(9) - 1;
            case "inlaw0": case "turn1": case "as1": return random.nextInt(7);
            case "with2": case "on2": case "then2": case "give1": return random.nextInt(4);
            case "set1": case "coupleOf1": case "count0": return random.nextInt(5);
            case "set2": return random.nextInt(100);
            case "give2": return random.nextBoolean() ? random.nextInt(10) - 1 : random.nextInt(2001) - 1000;
            case "couple0": return random.nextInt(11);
            case "sundays0": case "kind1": case "warm1": case "sit0": case "loud1": case "stoke0":
                return random.nextBoolean() ? 1 + random.nextInt(5) : random.nextInt(62);
            case "on1": case "then1": case "lonely0": return random.nextInt(102);
            case "well1": return random.nextInt(400) - 100;
            case "warm2": return random.nextInt(60);
            case "feed0": return random.nextInt();
            case "feed1": return random.nextInt(6);
            case "sheet1": return new int[] {0, 8, 16, 64, 16, 64, 32}[random.nextInt(7)];
            case "sheet2": return random.nextInt(42) - 1;
            case "write1": case "copy1": case "copy3": case "copy4": return random.nextInt(14) - 1;
            case "write2": return random.nextBoolean() ? random.nextInt(120) - 10 : random.nextLong();
            case "sheet0": case "write0": case "copy0": case "copy2": case "lays0": case "book0": case "read0":
                return random.nextInt(5);
            default: return random.nextInt(9);
        }
    }

    private static void feedText(PooledInlaws x, Model model, Random random) {
        StringBuilder b = new StringBuilder();
        int items = random.nextInt(5);
        for (int k = 0; k < items; k++) {
            b.append(k > 0 ? ";" : "").append(" ".repeat(random.nextInt(2)));
            int which = random.nextInt(4);
            if (which == 0) {
                b.append(WORDS[random.nextInt(6)]).append(random.nextBoolean() ? " warm " + random.nextInt(101) : "")
                    .append(random.nextBoolean() ? " sat " : "");
            } else if (which == 1) {
                b.append("couple").append(random.nextInt(11)).append(random.nextBoolean() ? "had " + random.nextInt(8) : "");
            } else {
                b.append(which == 2 ? "fire " + random.nextInt(23) : "sit" + random.nextInt(8));
            }
            if (random.nextInt(8) == 0) {
                b.append(WORDS[random.nextInt(WORDS.length)]);
            }
        }
        for (int i = 0; i < b.length(); i++) {
            x.feed(b.charAt(i), 1);
            model.call("feed", new long[] {b.charAt(i), 1});
        }
    }

    private static long invoke(Method m, PooledInlaws x, long[] a) throws Exception {
        Object[] o = new Object[a.length];
        for (int i = 0; i < a.length; i++) {
            if (m.getParameterTypes()[i] == long.class) {
                o[i] = a[i];
            } else {
                o[i] = (int) a[i];
            }
        }
        return ((Number) m.invoke(x, o)).longValue();
    }

    private static String stateOf(PooledInlaws x) {
        StringBuilder b = new StringBuilder(Check.all(x));
        for (int which = -1; which <= 6; which++) {
            b.append(' ').append(x.status(which));
        }
        return b.toString();
    }

    private static String stateOf(Model m) {
        StringBuilder b = new StringBuilder();
        for (int what = 0; what <= 5; what++) {
            b.append(m.call("now", new long[] {what})).append(' ');
        }
        for (int i = 0; i < m.state.inlaws.size(); i++) {
            b.append("/ ");
            for (int what = 0; what <= 4; what++) {
                b.append(m.call("of", new long[] {i, what})).append(' ');
            }
        }
        for (int c = 0; c < m.state.couples.size(); c++) {
            b.append("| ");
            for (int what = 0; what <= 2; what++) {
                b.append(m.call("coupleOf", new long[] {c, what})).append(' ');
            }
        }
        b.append("# ").append(m.tape.length);
        for (int which = -1; which <= 6; which++) {
            b.append(' ').append(m.call("status", new long[] {which}));
        }
        return b.toString();
    }
}
