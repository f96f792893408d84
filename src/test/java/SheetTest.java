/** Promises 28 to 33: sheet, write, copy, lays, book, read. */
public final class SheetTest {
    private static final int LEAST = Integer.MIN_VALUE;
    private static final int MOST = Integer.MAX_VALUE;

    public static void main(String[] args) {
        Check check = new Check();
        sheet(check);
        write(check);
        copy(check);
        copyRefuses(check);
        lays(check);
        book(check);
        read(check);
        kept(check);
        check.end();
    }

    private static void sheet(Check check) {
        PooledInlaws x = new PooledInlaws();
        for (int s = 0; s <= 3; s++) {
            check.due("write to a sheet that is MISSING", x.write(s, 0, 1), Check.MISSING);
            for (int bits : new int[] {8, 16, 64}) {
                check.due("sheet", x.sheet(s, bits, 40), 40);
                check.due("write", x.write(s, 39, 5), 0);
                check.due("write", x.write(s, 40, 5), Check.BEYOND);
            }
            check.due("sheet of none", x.sheet(s, 8, 0), 0);
            check.due("write to none", x.write(s, 0, 5), Check.BEYOND);
            check.due("sheet, MISSING", x.sheet(s, 0, 7), 0);
            check.due("write", x.write(s, 0, 5), Check.MISSING);
        }
        x.sheet(1, 16, 3);
        x.write(1, 2, 77);
        int[][] wrong = {{-1, 8, 1, Check.BEYOND}, {4, 8, 1, Check.BEYOND}, {1, 7, 1, Check.BEYOND},
            {1, 32, 1, Check.BEYOND}, {1, -8, 1, Check.BEYOND}, {1, 32, -1, Check.BEYOND}, {4, 8, -1, Check.BEYOND},
            {1, 8, -1, Check.SIZE}, {1, 0, -1, Check.SIZE}, {1, 8, 41, Check.BEYOND}, {1, 0, 41, Check.BEYOND},
            {1, 64, LEAST, Check.SIZE}, {1, 64, MOST, Check.BEYOND}};
        for (int[] w : wrong) {
            check.due("sheet(" + w[0] + ", " + w[1] + ", " + w[2] + ")", x.sheet(w[0], w[1], w[2]), w[3]);
        }
        check.due("nothing changes", x.write(1, 2, 0), 77);
        check.due("status(6)", x.status(6), 3);
    }

    private static void write(Check check) {
        PooledInlaws x = new PooledInlaws();
        int[] bits = {8, 16, 64};
        long[] numbers = {127, 128, -129, 255, 32767, 32768, -32769, 65535, 1L << 40, Long.MIN_VALUE, -1000000001};
        for (int s = 0; s < 3; s++) {
            x.sheet(s, bits[s], 2);
            long was = 0;
            for (long v : numbers) {
                check.due("write of " + v + " to " + bits[s] + " bits", x.write(s, 1, v), was);
                was = s == 0 ? (byte) v : s == 1 ? (short) v : v;
            }
            check.due("the last", x.write(s, 1, 0), was);
            check.due("the other", x.write(s, 0, 0), 0);
        }
        check.due("an answer like a finding is none", x.status(-1), 0);
        check.due("write(-1, 0, 0)", x.write(-1, 0, 0), Check.BEYOND);
        check.due("write(4, 0, 0)", x.write(4, 0, 0), Check.BEYOND);
        check.due("write(3, -1, 0)", x.write(3, -1, 0), Check.MISSING);
        check.due("write(0, -1, 0)", x.write(0, -1, 0), Check.BEYOND);
        check.due("write(0, 2, 0)", x.write(0, 2, 0), Check.BEYOND);
        check.due("status(5)", x.status(5), 1);
    }

    private static PooledInlaws rows() {
        PooledInlaws x = new PooledInlaws();
        x.sheet(0, 16, 6);
        x.sheet(1, 16, 4);
        x.sheet(2, 8, 6);
        for (int i = 0; i < 6; i++) {
            x.write(0, i, 10 + i);
        }
        return x;
    }

    private static String row(PooledInlaws x, int s, int n) {
        StringBuilder b = new StringBuilder();
        for (int i = 0; i < n; i++) {
            long v = x.write(s, i, 0);
            x.write(s, i, v);
            b.append(v).append(' ');
        }
        return b.toString();
    }

    private static void copy(Check check) {
        PooledInlaws x = rows();
        check.due("copy", x.copy(0, 1, 1, 2, 2), 2);
        check.due("the other", row(x, 1, 4), "0 0 11 12 ");
        check.due("copy of all", x.copy(0, 2, 1, 0, 4), 4);
        check.due("the other", row(x, 1, 4), "12 13 14 15 ");
        check.due("the one", row(x, 0, 6), "10 11 12 13 14 15 ");
        check.due("copy on", x.copy(0, 0, 0, 1, 5), 5);
        check.due("itself", row(x, 0, 6), "10 10 11 12 13 14 ");
        check.due("copy back", x.copy(0, 1, 0, 0, 5), 5);
        check.due("itself", row(x, 0, 6), "10 11 12 13 14 14 ");
        check.due("copy of none at the end", x.copy(0, 6, 1, 4, 0), 0);
    }

    private static void copyRefuses(Check check) {
        PooledInlaws x = rows();
        int[][] wrong = {{-1, 0, 0, 0, 0, Check.BEYOND}, {4, 0, 0, 0, 0, Check.BEYOND}, {3, 0, 4, 0, 0, Check.BEYOND},
            {0, 0, -1, 0, 0, Check.BEYOND}, {3, 0, 0, 0, 1, Check.MISSING}, {0, 0, 3, 0, 1, Check.MISSING},
            {3, -1, 3, -1, -1, Check.MISSING}, {0, 0, 2, 0, 1, Check.KIND}, {2, -1, 0, 0, 1, Check.KIND},
            {0, -1, 1, 0, 1, Check.BEYOND}, {0, 0, 1, -1, 1, Check.BEYOND}, {0, 0, 1, 0, -1, Check.BEYOND},
            {0, 0, 1, 0, 5, Check.BEYOND}, {1, 0, 0, 0, 5, Check.BEYOND}, {0, 5, 1, 0, 2, Check.BEYOND},
            {0, 0, 1, 3, 2, Check.BEYOND}, {0, 7, 1, 0, 0, Check.BEYOND}, {0, 0, 1, 5, 0, Check.BEYOND},
            {0, MOST, 1, 0, 1, Check.BEYOND}, {0, MOST, 1, 0, MOST, Check.BEYOND}, {0, 1, 1, 1, MOST, Check.BEYOND},
            {0, LEAST, 1, 0, LEAST, Check.BEYOND}, {0, 0, 1, MOST, 4, Check.BEYOND}};
        for (int[] w : wrong) {
            String label = "copy" + java.util.Arrays.toString(w);
            check.due(label, x.copy(w[0], w[1], w[2], w[3], w[4]), w[5]);
        }
        check.due("nothing changes", row(x, 0, 6) + row(x, 1, 4), "10 11 12 13 14 15 0 0 0 0 ");
        check.due("status(2)", x.status(2), 2);
    }

    private static void lays(Check check) {
        PooledInlaws x = Check.of("inlaw; inlaw; inlaw; inlaw; inlaw");
        x.sheet(0, 64, 8);
        long[] v = {0, 99, 100, -1, (1L << 32) + 5, 7, 8, 9};
        for (int i = 0; i < 8; i++) {
            x.write(0, i, v[i]);
        }
        check.due("lays(0)", x.lays(0), 2);
        int[] due = {0, 99, 40, 40, 40};
        for (int i = 0; i < 5; i++) {
            check.due("WARM of " + i, x.of(i, 1), due[i]);
        }
        x.sheet(1, 8, 3);
        check.due("lays(1)", x.lays(1), 3);
        check.due("WARM of all", x.now(5), 80);
        check.due("a new one is not laid", x.inlaw(0) * 100 + x.of(5, 1), 540);
        x.sheet(2, 8, 0);
        check.due("lays(2)", x.lays(2), 0);
        check.due("lays(3)", x.lays(3), Check.MISSING);
        check.due("lays(4)", x.lays(4), Check.BEYOND);
        check.due("lays(-1)", x.lays(-1), Check.BEYOND);
        x.write(0, 0, Long.MIN_VALUE);
        x.write(0, 1, Long.MAX_VALUE);
        check.due("lays(0)", x.lays(0), 1);
        check.due("the one that came", x.of(5, 1), 7);
    }

    private static void book(Check check) {
        PooledInlaws x = Check.of("tartar warm 70; blesser; couple 0; couple 8; couple 4");
        x.give(1, 1, 995);
        x.sheet(0, 16, 40);
        x.sheet(1, 8, 5);
        x.sheet(2, 64, 0);
        String before = Check.all(x);
        for (int c = 0; c < 3; c++) {
            check.due("book(0, " + c + ")", x.book(0, c), 40);
            check.due("book(1, " + c + ")", x.book(1, c), 5);
            for (int i = 0; i < 40; i++) {
                int due = x.on(c, i, 0);
                check.due("WELL of " + c + " " + i + " AHEAD", x.write(0, i, 0), due);
                if (i < 5) {
                    check.due("its lowest bits", x.write(1, i, 0), (byte) due);
                }
            }
        }
        check.due("nothing changes", Check.all(x), before);
        check.due("book(2, 0)", x.book(2, 0), 0);
        check.due("book(-1, 0)", x.book(-1, 0), Check.BEYOND);
        check.due("book(4, 0)", x.book(4, 0), Check.BEYOND);
        check.due("book(3, 9)", x.book(3, 9), Check.MISSING);
        check.due("book(0, 3)", x.book(0, 3), Check.BEYOND);
        check.due("book(0, -1)", x.book(0, -1), Check.BEYOND);
    }

    private static void read(Check check) {
        PooledInlaws x = Check.of("inlaw; couple 5; couple 5; fire 9");
        x.sheet(0, 16, 1);
        check.due("WELL now is 0 with all", x.read(0, 0, 0), 60);
        x.write(0, 0, 1);
        check.due("and never 1", x.read(0, 0, 0), 0);
        x.sheet(0, 8, 2);
        // DOES of one had first, FIRE 9: INLAW 2 and FATHER 2 with any LOUD, MOTHER 2 below 7 and 1 from there.
        int[][] due = {{2, 27}, {1, 3}, {0, 10}, {-4, 10}, {12, 0}, {4, 10}, {3, 0}, {-1, 0}};
        for (int[] d : due) {
            x.write(0, 1, d[0]);
            check.due("pairs that make it " + d[0], x.read(0, 0, 0), d[1]);
        }
        x.write(0, 1, -1);
        check.due("the other goes home", x.read(0, 1, 0), 60);
        check.due("nothing changes", Check.all(x), "0 9 0 0 10000 40 / 0 40 0 0 0 | 5 10000 -1 | 5 10000 -1 # 0");
        againstActs(check);
        x.give(0, 1, 256);
        x.sheet(1, 8, 1);
        x.book(1, 0);
        check.due("the number as it stands is WELL, not its lowest bits", x.read(1, 0, 0), 0);
        x.sheet(1, 8, 0);
        check.due("no numbers: all pairs", x.read(1, 0, 0), 60);
        check.due("read(-1, 0, 0)", x.read(-1, 0, 0), Check.BEYOND);
        check.due("read(4, 0, 0)", x.read(4, 0, 0), Check.BEYOND);
        check.due("read(3, 9, 9)", x.read(3, 9, 9), Check.MISSING);
        check.due("read(1, 2, 0)", x.read(1, 2, 0), Check.BEYOND);
        check.due("read(1, -1, 0)", x.read(1, -1, 0), Check.BEYOND);
        check.due("read(1, 0, 1)", x.read(1, 0, 1), Check.BEYOND);
        check.due("read(1, 0, -1)", x.read(1, 0, -1), Check.BEYOND);
    }

    /** Each pair done by turn and give on an object of its own. */
    private static void againstActs(Check check) {
        String text = "tartar warm 66; mother; father; uncle; couple 2; couple 7; couple 4; fire 12";
        for (int n : new int[] {2, 5, 40}) {
            for (int inlaw = 0; inlaw < 4; inlaw++) {
                PooledInlaws x = Check.of(text);
                x.sheet(0, 16, n);
                x.book(0, 1);
                int pairs = 0;
                for (int pair = 0; pair < 60; pair++) {
                    PooledInlaws y = Check.of(text);
                    y.turn(inlaw, pair / 10);
                    y.give(1, 0, pair % 10);
                    y.sheet(0, 16, n);
                    y.book(0, 1);
                    pairs += row(y, 0, n).equals(row(x, 0, n)) ? 1 : 0;
                }
                check.due("pairs of in-law " + inlaw + " over " + n, x.read(0, 1, inlaw), pairs);
            }
        }
    }

    private static void kept(Check check) {
        PooledInlaws x = rows();
        x.image();
        x.write(0, 0, 99);
        x.undo();
        check.due("sheets are not kept", row(x, 0, 1), "99 ");
    }
}
