/** Promises 1 to 3: a new object, fire, now. */
public final class InstituteTest {
    public static void main(String[] args) {
        Check check = new Check();
        newObject(check);
        fire(check);
        now(check);
        check.end();
    }

    private static void newObject(Check check) {
        PooledInlaws x = new PooledInlaws();
        check.due("a new object", Check.all(x), "0 10 -1 0 10000 0 # 0");
        check.due("undo() of a new object", x.undo(), Check.NONE);
        for (int s = 0; s <= 3; s++) {
            check.due("lays of sheet " + s, x.lays(s), Check.MISSING);
        }
        check.due("status(-1)", x.status(-1), 5);
    }

    private static void fire(Check check) {
        PooledInlaws x = new PooledInlaws();
        check.due("fire(0)", x.fire(0), 10);
        check.due("fire(20)", x.fire(20), 0);
        check.due("fire(21)", x.fire(21), Check.BEYOND);
        check.due("fire(-1)", x.fire(-1), Check.BEYOND);
        check.due("now(1)", x.now(1), 20);
        check.due("status(0)", x.status(0), 2);
    }

    private static void now(Check check) {
        PooledInlaws x = Check.of("mother; uncle sat; blesser warm 7 sat; couple 1; couple 2; couple 3; fire 3");
        x.give(1, 1, -30);
        x.give(2, 1, 4);
        check.due("now(1)", x.now(1), 3);
        check.due("now(2)", x.now(2), 0);
        check.due("now(3)", x.now(3), 6);
        check.due("now(4)", x.now(4), 9974);
        check.due("now(5)", x.now(5), 87);
        for (int sunday = 1; sunday <= 7; sunday++) {
            x.sundays(1);
            check.due("now(0)", x.now(0), sunday);
            check.due("now(2) on SUNDAY " + sunday, x.now(2), sunday % 3);
        }
        for (int i = 3; i < 8; i++) {
            x.inlaw(0);
            x.set(i, 2, 1);
        }
        check.due("now(3) of 8", x.now(3), 254);
        check.due("now(-1)", x.now(-1), Check.BEYOND);
        check.due("now(6)", x.now(6), Check.BEYOND);
    }
}
