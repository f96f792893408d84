/** Promises 13 to 18: sundays, on, then, meets, well, cold; and how A SUNDAY goes. */
public final class SundayTest {
    public static void main(String[] args) {
        Check check = new Check();
        oneSunday(check);
        order(check);
        held(check);
        lastSunday(check);
        ahead(check);
        meets(check);
        well(check);
        cold(check);
        refuse(check);
        check.end();
    }

    private static void oneSunday(Check check) {
        PooledInlaws x = Check.of("tartar warm 60; mother warm 60; father warm 20; uncle warm 1; couple 9; couple 1");
        // LOUD 9 comes first and is CHARMED 4, 6, 6, 4: the least of the best, the MOTHER.
        // LOUD 1 is CHARMED 7, 2, 4 by the rest: the TARTAR, WARM enough as they come.
        check.due("sundays(1)", x.sundays(1), 61 + 60 + 19 + 1);
        check.due("behind it", Check.all(x), "1 10 1 0 10013 141 / 4 61 0 0 1 / 1 60 0 0 1 / 2 19 0 1 0 / 3 1 0 1 0 "
            + "| 9 10001 1 | 1 10012 0 # 0");
        PooledInlaws none = Check.of("inlaw; blesser warm 1; fire 0");
        check.due("a SUNDAY without couples", none.sundays(3), 34);
        check.due("all ALONE", Check.all(none), "3 0 -1 0 10000 34 / 0 34 0 3 0 / 5 0 0 3 0 # 0");
        check.due("a TARTAR does by its WARM ahead of the thaw", tartarThaws(), 9996);
    }

    private static int tartarThaws() {
        PooledInlaws x = Check.of("tartar warm 59; couple 0");
        x.sundays(1);
        return x.of(0, 1) == 60 ? x.coupleOf(0, 1) : 0;
    }

    private static void order(Check check) {
        PooledInlaws x = Check.of("uncle; couple 5; couple 5; couple 5; couple 5");
        for (int sunday = 0; sunday < 6; sunday++) {
            for (int c = 0; c < 4; c++) {
                check.due("who has it on " + sunday, x.coupleOf(c, 3), c == sunday % 4 ? 0 : -1);
            }
            x.sundays(1);
        }
        // Behind the last couple comes couple 0, and so on.
        PooledInlaws y = Check.of("uncle; uncle; couple 5; couple 5; couple 5");
        y.sundays(2);
        check.due("the last is first", y.coupleOf(2, 3), 0);
        check.due("0 behind it", y.coupleOf(0, 3), 1);
        check.due("then none", y.coupleOf(1, 3), -1);
    }

    private static void held(Check check) {
        PooledInlaws x = Check.of("blesser warm 97; inlaw warm 1 sat; couple 5; couple 5");
        x.give(0, 1, 996);
        x.give(1, 1, -999);
        x.set(0, 4, 9999);
        x.set(1, 3, 9999);
        x.sundays(1);
        check.due("all is held", Check.all(x), "1 10 1 2 10000 99 / 5 99 0 0 9999 / 0 0 1 9999 0 "
            + "| 5 10999 0 | 5 9001 -1 # 0");
        PooledInlaws y = Check.of("tartar warm 1; couple 9");
        y.give(0, 1, -997);
        y.sundays(1);
        check.due("held below", Check.all(y), "1 10 0 0 9001 0 / 4 0 0 0 1 | 9 9001 0 # 0");
    }

    private static void lastSunday(Check check) {
        PooledInlaws x = Check.of("uncle; couple 5; couple 5; couple 5");
        for (int k = 0; k < 166; k++) {
            x.sundays(60);
        }
        check.due("sundays(40) from 9960", x.sundays(40), Check.STATE);
        check.due("sundays(61) from 9960", x.sundays(61), Check.BEYOND);
        check.due("nothing changed", x.now(0), 9960);
        check.due("sundays(39) from 9960", x.sundays(39), 99);
        check.due("now(0)", x.now(0), 9999);
        check.due("sundays(1) from 9999", x.sundays(1), Check.STATE);
        check.due("status(4)", x.status(4), 2);
        check.due("who comes first on 9999", x.now(2), 0);
        // AHEAD, the SUNDAYS go on, each with its own first couple.
        check.due("on 9999", x.meets(0, 0), 1);
        check.due("on 10000", x.meets(1, 0), 2);
        check.due("on 10001", x.meets(2, 0), 3);
    }

    private static void ahead(Check check) {
        PooledInlaws x = Check.of("mother; tartar warm 70; blesser; uncle sat; couple 0; couple 8; couple 4");
        x.sundays(2);
        for (int n = 0; n <= 100; n += 20) {
            PooledInlaws y = Check.of("mother; tartar warm 70; blesser; uncle sat; couple 0; couple 8; couple 4");
            y.sundays(2);
            for (int k = 0; k < n; k += 20) {
                y.sundays(20);
            }
            String before = Check.all(x);
            for (int c = 0; c < 3; c++) {
                check.due("WELL of " + c + " " + n + " AHEAD", x.on(c, n, 0), y.coupleOf(c, 1) - 10000);
                check.due("LAST of " + c + " " + n + " AHEAD", x.on(c, n, 1), y.coupleOf(c, 2));
            }
            for (int i = 0; i < 4; i++) {
                check.due("WARM of " + i + " " + n + " AHEAD", x.then(i, n, 0), y.of(i, 1));
                check.due("ALONE of " + i + " " + n + " AHEAD", x.then(i, n, 1), y.of(i, 3));
                check.due("HAD of " + i + " " + n + " AHEAD", x.then(i, n, 2), y.of(i, 4));
            }
            check.due("nothing changes", Check.all(x), before);
        }
    }

    private static void meets(Check check) {
        PooledInlaws x = Check.of("inlaw warm 60; uncle; inlaw warm 99 sat; couple 5; couple 5 had 1");
        String before = Check.all(x);
        check.due("this SUNDAY", x.meets(0, 0), 1);
        check.due("this SUNDAY, too", x.meets(1, 1), 1);
        check.due("the next", x.meets(1, 0), 2);
        check.due("one that is SAT ON", x.meets(0, 2), Check.NONE);
        check.due("nothing changes", Check.all(x), before);
        // Couple 1 keeps to the TARTAR, which cools by 2 each time, till the INLAW is as good (on SUNDAY 19,
        // WARM 27); so couple 0, behind it then, is left with the UNCLE, and couple 1 a SUNDAY later.
        PooledInlaws y = Check.of("inlaw warm 99; tartar warm 65; uncle; couple 9; couple 9");
        check.due("the 20th", y.meets(0, 2), 20);
        check.due("the 21st", y.meets(1, 2), 21);
        String late = "mother warm 95; tartar warm 77; uncle warm 55 sat; couple 0; couple 2; couple 0; couple 9; fire 4";
        check.due("the 100th", Check.of(late).meets(3, 0), 100);
        check.due("the 100th, one by one", firstHas(late, 3, 0), 100);
        check.due("the 101st", Check.of(late).meets(1, 0), Check.NONE);
        check.due("the 101st, one by one", firstHas(late, 1, 0), 101);
    }

    private static int firstHas(String text, int couple, int inlaw) {
        PooledInlaws x = Check.of(text);
        int n = 1;
        for (; n < 200 && x.coupleOf(couple, 3) != inlaw; n++) {
            x.sundays(1);
        }
        return n;
    }

    private static void well(Check check) {
        PooledInlaws x = Check.of("inlaw; couple 5");
        check.due("well(0, 0)", x.well(0, 0), 0);
        check.due("well(0, -999)", x.well(0, -999), 0);
        check.due("well(0, 1)", x.well(0, 1), 1);
        check.due("well(0, 5)", x.well(0, 5), 3);
        check.due("well(0, 200)", x.well(0, 200), 100);
        check.due("well(0, 201)", x.well(0, 201), Check.NONE);
        x.give(0, 1, 7);
        check.due("well(0, 7)", x.well(0, 7), 0);
        check.due("well(0, 999)", x.well(0, 999), Check.NONE);
        check.due("nothing changes", Check.all(x), "0 10 0 0 10007 40 / 0 40 0 0 0 | 5 10007 -1 # 0");
    }

    private static void cold(Check check) {
        PooledInlaws x = Check.of("inlaw; mother warm 41; uncle; father warm 99; inlaw warm 0; inlaw warm 1; fire 9");
        check.due("cold(0)", x.cold(0), 20);
        check.due("cold(1)", x.cold(1), 11);
        check.due("cold(2)", x.cold(2), Check.NONE);
        check.due("cold(3)", x.cold(3), 50);
        check.due("cold(4)", x.cold(4), 0);
        check.due("cold(5)", x.cold(5), 1);
        x.fire(19);
        check.due("cold(3) by a fire", x.cold(3), 99);
        x.fire(20);
        check.due("cold(3) by a great fire", x.cold(3), Check.NONE);
        String late = "inlaw warm 49; tartar warm 71; couple 6; couple 5; couple 8; couple 5; fire 18";
        check.due("cold in 100", Check.of(late).cold(1), 100);
        check.due("cold in 100, one by one", firstCold(late, 1), 100);
        late = "mother warm 51; tartar warm 72; couple 4; couple 8; fire 7";
        check.due("cold in 101", Check.of(late).cold(1), Check.NONE);
        check.due("cold in 101, one by one", firstCold(late, 1), 101);
    }

    private static int firstCold(String text, int inlaw) {
        PooledInlaws x = Check.of(text);
        int n = 0;
        for (; n < 200 && x.of(inlaw, 1) != 0; n++) {
            x.sundays(1);
        }
        return n;
    }

    private static void refuse(Check check) {
        PooledInlaws x = Check.of("inlaw; inlaw; couple 5");
        String before = Check.all(x);
        int[] got = {x.sundays(0), x.sundays(61), x.sundays(-1),
            x.on(1, 0, 0), x.on(-1, 0, 0), x.on(0, -1, 0), x.on(0, 101, 0), x.on(0, 0, 2), x.on(0, 0, -1),
            x.then(2, 0, 0), x.then(-1, 0, 0), x.then(0, -1, 0), x.then(0, 101, 0), x.then(0, 0, 3), x.then(0, 0, -1),
            x.meets(1, 0), x.meets(-1, 0), x.meets(0, 2), x.meets(0, -1),
            x.well(1, 0), x.well(-1, 0), x.well(0, 1000), x.well(0, -1000), x.cold(2), x.cold(-1)};
        for (int k = 0; k < got.length; k++) {
            check.due("wrong input " + k, got[k], Check.BEYOND);
        }
        check.due("status(0)", x.status(0), got.length);
        check.due("nothing changes", Check.all(x), before);
    }
}
