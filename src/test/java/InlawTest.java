/** Promises 4 to 9: inlaw, of, with, set, turn, as. */
public final class InlawTest {
    /** By KIND: CHARMS at WARM 57 for LOUD 0, 3, 4, 7, 9, with FIRE 19, when it isn't LAST. */
    private static final int[][] CHARMS = {
        {5, 5, 5, 5, 5}, {8, 8, 5, 5, 5}, {5, 6, 7, 8, 9}, {4, 4, 4, 4, 4}, {6, 6, 3, 3, 3}, {8, 9, 10, 11, 12}};
    /** By KIND: DOES for LOUD 6, 7, with FIRE 9, then 10. */
    private static final int[][] DOES = {
        {2, 2, 2, 2}, {2, 1, 2, 1}, {2, 2, 3, 3}, {0, 0, 0, 0}, {-4, -4, -4, -4}, {4, 4, 5, 5}};
    /** By KIND: THAWS for LOUD 2, 3, 5, 6, 9. */
    private static final int[][] THAWS = {
        {3, 3, 3, 3, 3}, {3, 2, 2, 1, 0}, {3, 3, 3, 3, 3}, {1, 1, 1, 1, 1}, {1, 0, 0, -1, -2}, {6, 6, 6, 6, 6}};
    /** By KIND: CHILLS with FIRE 0, 9, 10, 19, 20. */
    private static final int[][] CHILLS = {
        {2, 2, 2, 2, 2}, {4, 4, 4, 4, 4}, {2, 2, 1, 1, 0}, {0, 0, 0, 0, 0}, {4, 4, 4, 4, 4}, {1, 1, 0, 0, 0}};
    /** By KIND: those as one of which it may be taken. */
    private static final int[][] UNDER = {{0}, {1, 0}, {2, 0}, {3, 0}, {4, 1, 0}, {5, 2, 0}};

    public static void main(String[] args) {
        Check check = new Check();
        inlaw(check);
        kinds(check);
        withRefuses(check);
        set(check);
        turn(check);
        as(check);
        check.end();
    }

    private static void inlaw(Check check) {
        PooledInlaws x = new PooledInlaws();
        check.due("inlaw(-1)", x.inlaw(-1), Check.BEYOND);
        check.due("inlaw(6)", x.inlaw(6), Check.BEYOND);
        for (int i = 0; i < 8; i++) {
            check.due("inlaw", x.inlaw(i % 6), i);
            int[] first = {i % 6, 40, 0, 0, 0};
            for (int what = 0; what <= 4; what++) {
                check.due("of(" + i + ", " + what + ")", x.of(i, what), first[what]);
            }
        }
        check.due("a 9th", x.inlaw(0), Check.FULL);
        check.due("a 9th of no KIND", x.inlaw(6), Check.BEYOND);
        check.due("count(0)", x.count(0), 8);
        check.due("of(8, 0)", x.of(8, 0), Check.BEYOND);
        check.due("of(-1, 0)", x.of(-1, 0), Check.BEYOND);
        check.due("of(0, 6)", x.of(0, 6), Check.BEYOND);
        check.due("of(0, -1)", x.of(0, -1), Check.BEYOND);
        // One that comes in the place of an undone one is new all the same.
        PooledInlaws y = new PooledInlaws();
        y.image();
        y.inlaw(3);
        y.set(0, 1, 3);
        y.set(0, 2, 1);
        y.set(0, 3, 5);
        y.set(0, 4, 6);
        y.couple(4);
        y.give(0, 1, 9);
        y.give(0, 2, 0);
        y.undo();
        y.inlaw(1);
        y.couple(7);
        check.due("new ones behind undo()", Check.all(y), "0 10 0 0 10000 40 / 1 40 0 0 0 | 7 10000 -1 # 0");
    }

    private static void kinds(Check check) {
        PooledInlaws x = Check.of("couple 0; inlaw; mother; father; uncle; tartar; blesser");
        for (int k = 0; k < 6; k++) {
            x.set(k, 1, 57);
            x.fire(19);
            row(check, x, k, 0, new int[] {0, 3, 4, 7, 9}, CHARMS[k], 0);
            x.fire(9);
            row(check, x, k, 1, new int[] {6, 7}, DOES[k], 0);
            x.fire(10);
            row(check, x, k, 1, new int[] {6, 7}, DOES[k], 2);
            row(check, x, k, 2, new int[] {2, 3, 5, 6, 9}, THAWS[k], 0);
            int[] fires = {0, 9, 10, 19, 20};
            for (int f = 0; f < fires.length; f++) {
                x.fire(fires[f]);
                check.due("CHILLS of " + k + " with FIRE " + fires[f], x.of(k, 5), CHILLS[k][f]);
            }
            x.fire(19);
            x.give(0, 0, 0);
            x.give(0, 2, k);
            check.due("CHARMS of " + k + " as LAST", x.with(k, 0, 0), CHARMS[k][0] + (k == 4 ? 9 : 0));
            x.give(0, 2, -1);
        }
        int[] fires = {0, 4, 5, 9, 10, 14, 15, 19, 20};
        for (int f = 0; f < fires.length; f++) {
            x.fire(fires[f]);
            check.due("CHARMS of a BLESSER with FIRE " + fires[f], x.with(5, 0, 0), 5 + f / 2);
        }
        x.set(4, 1, 59);
        check.due("DOES of a TARTAR of 59", x.with(4, 0, 1), 96);
        x.set(4, 1, 60);
        check.due("DOES of a TARTAR of 60", x.with(4, 0, 1), 112);
        x.set(4, 1, 0);
        x.give(0, 0, 4);
        check.due("CHARMS may be below 0", x.with(4, 0, 0), -2);
    }

    private static void row(Check check, PooledInlaws x, int k, int what, int[] louds, int[] due, int from) {
        for (int l = 0; l < louds.length; l++) {
            x.give(0, 0, louds[l]);
            String label = "with(" + k + ", 0, " + what + ") for LOUD " + louds[l] + ", FIRE " + x.now(1);
            check.due(label, x.with(k, 0, what), due[from + l] + (what == 0 ? 0 : 100));
        }
    }

    private static void withRefuses(Check check) {
        PooledInlaws x = Check.of("inlaw; couple 4");
        check.due("with(1, 0, 0)", x.with(1, 0, 0), Check.BEYOND);
        check.due("with(-1, 0, 0)", x.with(-1, 0, 0), Check.BEYOND);
        check.due("with(0, 1, 0)", x.with(0, 1, 0), Check.BEYOND);
        check.due("with(0, -1, 0)", x.with(0, -1, 0), Check.BEYOND);
        check.due("with(0, 0, 3)", x.with(0, 0, 3), Check.BEYOND);
        check.due("with(0, 0, -1)", x.with(0, 0, -1), Check.BEYOND);
        check.due("status(0)", x.status(0), 6);
    }

    private static void set(Check check) {
        PooledInlaws x = Check.of("inlaw; mother");
        int[] most = {0, 99, 1, 9999, 9999};
        int[] was = {0, 40, 0, 0, 0};
        for (int what = 1; what <= 4; what++) {
            check.due("set(1, " + what + ", most)", x.set(1, what, most[what]), was[what]);
            check.due("set(1, " + what + ", above)", x.set(1, what, most[what] + 1), Check.BEYOND);
            check.due("set(1, " + what + ", -1)", x.set(1, what, -1), Check.BEYOND);
            check.due("of(1, " + what + ")", x.of(1, what), most[what]);
            check.due("set(1, " + what + ", 0)", x.set(1, what, 0), most[what]);
            check.due("of(0, " + what + ")", x.of(0, what), was[what]);
        }
        check.due("set(1, 0, 0)", x.set(1, 0, 0), Check.BEYOND);
        check.due("set(1, 5, 0)", x.set(1, 5, 0), Check.BEYOND);
        check.due("set(2, 1, 0)", x.set(2, 1, 0), Check.BEYOND);
        check.due("set(-1, 1, 0)", x.set(-1, 1, 0), Check.BEYOND);
    }

    private static void turn(Check check) {
        PooledInlaws x = Check.of("tartar warm 61 sat");
        x.set(0, 3, 5);
        x.set(0, 4, 6);
        check.due("turn(0, 5)", x.turn(0, 5), 4);
        check.due("turn(0, 6)", x.turn(0, 6), Check.BEYOND);
        check.due("turn(0, -1)", x.turn(0, -1), Check.BEYOND);
        check.due("turn(1, 0)", x.turn(1, 0), Check.BEYOND);
        check.due("turn(-1, 0)", x.turn(-1, 0), Check.BEYOND);
        check.due("a turned one", Check.all(x), "0 10 -1 1 10000 61 / 5 61 1 5 6 # 0");
        check.due("turn(0, 0)", x.turn(0, 0), 5);
    }

    private static void as(Check check) {
        PooledInlaws x = Check.of("inlaw; mother; father; uncle; tartar; blesser");
        for (int i = 0; i < 6; i++) {
            x.set(i, 1, 50 + i);
            for (int k = 0; k < 6; k++) {
                boolean is = false;
                for (int above : UNDER[i]) {
                    is |= above == k;
                }
                check.due("as(" + i + ", " + k + ")", x.as(i, k), is ? 50 + i : Check.KIND);
            }
        }
        check.due("as(0, 6)", x.as(0, 6), Check.BEYOND);
        check.due("as(0, -1)", x.as(0, -1), Check.BEYOND);
        check.due("as(6, 0)", x.as(6, 0), Check.BEYOND);
        check.due("as(-1, 0)", x.as(-1, 0), Check.BEYOND);
    }
}
