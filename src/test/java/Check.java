/** Counts the answers that are not as due, and tells the findings by name. */
final class Check {
    static final int BEYOND = -1000000001;
    static final int FULL = -1000000002;
    static final int KIND = -1000000003;
    static final int NONE = -1000000004;
    static final int STATE = -1000000005;
    static final int MISSING = -1000000006;
    static final int SIZE = -1000000007;

    private int wrong = 0;

    void due(String what, long got, long want) {
        if (got != want) {
            wrong++;
            System.out.println(what + " answered " + got + ", due is " + want);
        }
    }

    void due(String what, String got, String want) {
        if (!got.equals(want)) {
            wrong++;
            System.out.println(what + " is " + got + ", due is " + want);
        }
    }

    void end() {
        if (wrong != 0) {
            System.out.println(wrong + " answers are not as due");
            System.exit(1);
        }
    }

    static PooledInlaws of(String text) {
        PooledInlaws x = new PooledInlaws();
        if (tell(x, text) < 0) {
            System.out.println("a test's own text has a FAULT: " + text);
            System.exit(1);
        }
        return x;
    }

    static int tell(PooledInlaws x, String text) {
        feed(x, text);
        return x.institute();
    }

    static void feed(PooledInlaws x, String text) {
        for (int i = 0; i < text.length(); i++) {
            x.feed(text.charAt(i), 1);
        }
    }

    /** All that an act could have changed, but for status(). */
    static String all(PooledInlaws x) {
        StringBuilder b = new StringBuilder();
        for (int what = 0; what <= 5; what++) {
            b.append(x.now(what)).append(' ');
        }
        for (int i = 0; i < x.count(0); i++) {
            b.append("/ ");
            for (int what = 0; what <= 4; what++) {
                b.append(x.of(i, what)).append(' ');
            }
        }
        for (int c = 0; c < x.count(1); c++) {
            b.append("| ");
            for (int what = 0; what <= 2; what++) {
                b.append(x.coupleOf(c, what)).append(' ');
            }
        }
        return b.append("# ").append(x.count(2)).toString();
    }
}
