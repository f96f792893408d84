/** Promises 10 to 12: couple, coupleOf, give. */
public final class CoupleTest {
    public static void main(String[] args) {
        Check check = new Check();
        couple(check);
        has(check);
        give(check);
        check.end();
    }

    private static void couple(Check check) {
        PooledInlaws x = new PooledInlaws();
        check.due("couple(-1)", x.couple(-1), Check.BEYOND);
        check.due("couple(10)", x.couple(10), Check.BEYOND);
        for (int c = 0; c < 8; c++) {
            check.due("couple", x.couple(c + 2), c);
            check.due("LOUD", x.coupleOf(c, 0), c + 2);
            check.due("WELL", x.coupleOf(c, 1), 10000);
            check.due("LAST", x.coupleOf(c, 2), -1);
            check.due("nobody to be had", x.coupleOf(c, 3), -1);
        }
        check.due("a 9th", x.couple(0), Check.FULL);
        check.due("a 9th too loud", x.couple(10), Check.BEYOND);
        check.due("count(1)", x.count(1), 8);
        check.due("coupleOf(8, 0)", x.coupleOf(8, 0), Check.BEYOND);
        check.due("coupleOf(-1, 0)", x.coupleOf(-1, 0), Check.BEYOND);
        check.due("coupleOf(0, 4)", x.coupleOf(0, 4), Check.BEYOND);
        check.due("coupleOf(0, -1)", x.coupleOf(0, -1), Check.BEYOND);
    }

    private static void has(Check check) {
        // The first to come takes the warmest; the third couple finds nobody.
        PooledInlaws x = Check.of("inlaw warm 50; inlaw warm 90 sat; inlaw warm 50; couple 5; couple 5; couple 5");
        int[][] due = {{0, 2, -1}, {-1, 0, 2}, {2, -1, 0}};
        for (int sunday = 0; sunday < 3; sunday++) {
            for (int c = 0; c < 3; c++) {
                String before = Check.all(x);
                check.due("has of " + c + " on " + sunday, x.coupleOf(c, 3), due[sunday][c]);
                check.due("nothing changes", Check.all(x), before);
            }
            x.sundays(1);
            for (int i = 0; i < 3; i++) {
                x.set(i, 1, 50);
            }
        }
        check.due("LAST stays when it goes home", x.coupleOf(1, 2), 0);
    }

    private static void give(Check check) {
        PooledInlaws x = Check.of("inlaw; couple 5; couple 6");
        check.due("give(1, 0, 9)", x.give(1, 0, 9), 6);
        check.due("give(1, 0, 10)", x.give(1, 0, 10), Check.BEYOND);
        check.due("give(1, 0, -1)", x.give(1, 0, -1), Check.BEYOND);
        check.due("give(1, 0, 0)", x.give(1, 0, 0), 9);
        check.due("give(1, 1, -999)", x.give(1, 1, -999), 0);
        check.due("give(1, 1, 999)", x.give(1, 1, 999), -999);
        check.due("give(1, 1, 1000)", x.give(1, 1, 1000), Check.BEYOND);
        check.due("give(1, 1, -1000)", x.give(1, 1, -1000), Check.BEYOND);
        check.due("WELL", x.coupleOf(1, 1), 10999);
        check.due("give(1, 2, 0)", x.give(1, 2, 0), -1);
        check.due("give(1, 2, 1)", x.give(1, 2, 1), Check.BEYOND);
        check.due("give(1, 2, -2)", x.give(1, 2, -2), Check.BEYOND);
        check.due("give(1, 2, -1)", x.give(1, 2, -1), 0);
        check.due("give(1, 3, 0)", x.give(1, 3, 0), Check.BEYOND);
        check.due("give(1, -1, 0)", x.give(1, -1, 0), Check.BEYOND);
        check.due("give(2, 0, 0)", x.give(2, 0, 0), Check.BEYOND);
        check.due("give(-1, 0, 0)", x.give(-1, 0, 0), Check.BEYOND);
        check.due("the other", Check.all(x), "0 10 0 0 10999 40 / 0 40 0 0 0 | 5 10000 -1 | 0 10999 -1 # 0");
    }
}
