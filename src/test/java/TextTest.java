/** Promises 25 to 27: feed, wipe, institute. */
public final class TextTest {
    public static void main(String[] args) {
        Check check = new Check();
        feed(check);
        texts(check);
        faults(check);
        ends(check);
        room(check);
        check.end();
    }

    private static void feed(Check check) {
        PooledInlaws x = new PooledInlaws();
        check.due("feed(0, 0)", x.feed(0, 0), Check.BEYOND);
        check.due("feed(0, 5)", x.feed(0, 5), Check.BEYOND);
        check.due("feed(0, -1)", x.feed(0, -1), Check.BEYOND);
        // The lowest n bytes, the highest of these first: "fi", "re", " ", "17".
        check.due("2 of 4", x.feed('?' << 24 | '?' << 16 | 'f' << 8 | 'i', 2), 2);
        check.due("3 of 4", x.feed('?' << 24 | 'r' << 16 | 'e' << 8 | ' ', 3), 5);
        check.due("1 of 4", x.feed('?' << 8 | '1', 1), 6);
        check.due("1 more", x.feed('7', 1), 7);
        check.due("count(2)", x.count(2), 7);
        check.due("institute()", x.institute(), 1);
        check.due("FIRE", x.now(1), 17);
        check.due("wipe() of none", x.wipe(), 0);
        check.due("4 of 4", x.feed('f' << 24 | 'i' << 16 | 'r' << 8 | 'e', 4), 4);
        check.due("institute(), ending early", x.institute(), -5);
        for (int k = 1; k <= 29; k++) {
            check.due("feed 4", x.feed(-1, 4), 4 * k);
        }
        check.due("119", x.feed(0, 3), 119);
        check.due("121", x.feed(0, 2), Check.FULL);
        check.due("BEYOND ahead of FULL", x.feed(0, 5), Check.BEYOND);
        check.due("120", x.feed(0, 1), 120);
        check.due("121", x.feed(0, 1), Check.FULL);
        check.due("a byte of 255 begins no TOKEN", x.institute(), -1);
        check.due("count(2)", x.count(2), 0);
        x.feed(0, 3);
        check.due("wipe()", x.wipe(), 3);
        check.due("wipe()", x.wipe(), 0);
    }

    private static void texts(Check check) {
        text(check, "inlaw;mother;father;uncle;tartar;blesser", 6,
            "0 10 -1 0 10000 240 / 0 40 0 0 0 / 1 40 0 0 0 / 2 40 0 0 0 / 3 40 0 0 0 / 4 40 0 0 0 / 5 40 0 0 0 # 0");
        text(check, "uncle warm 99 sat; tartar sat; mother warm 0", 3,
            "0 10 -1 3 10000 139 / 3 99 1 0 0 / 4 40 1 0 0 / 1 0 0 0 0 # 0");
        text(check, "couple 0; couple 9; inlaw; couple 5 had 0", 4,
            "0 10 0 0 10000 40 / 0 40 0 0 0 | 0 10000 -1 | 9 10000 -1 | 5 10000 0 # 0");
        text(check, "fire 0", 1, "0 0 -1 0 10000 0 # 0");
        text(check, "fire 20;fire 3", 2, "0 3 -1 0 10000 0 # 0");
        text(check, "inlaw;inlaw;sit 1;sit 1", 4, "0 10 -1 2 10000 80 / 0 40 0 0 0 / 0 40 1 0 0 # 0");
        // Blanks are not needed where TOKENS end by themselves, and may be many.
        text(check, "  inlaw   warm0045sat;couple3had0 ;  fire0000000000000000012  ", 3,
            "0 12 0 1 10000 45 / 0 45 1 0 0 | 3 10000 0 # 0");
        // What is told comes to what there is.
        PooledInlaws x = Check.of("uncle");
        x.sundays(2);
        check.due("told", Check.tell(x, "couple 2 had 0; sit 0"), 2);
        check.due("come to what there is", Check.all(x), "2 10 0 1 10000 40 / 3 40 1 2 0 | 2 10000 0 # 0");
        check.due("no finding", x.status(-1), 0);
    }

    private static void text(Check check, String text, int items, String all) {
        PooledInlaws x = new PooledInlaws();
        check.due(text, Check.tell(x, text), items);
        check.due(text, Check.all(x), all);
    }

    private static void faults(Check check) {
        fault(check, "", 0);
        fault(check, "   ", 3);
        fault(check, ";", 0);
        fault(check, "inlaw;", 6);
        fault(check, "inlaw; ", 7);
        fault(check, "inlaw;;inlaw", 6);
        fault(check, "inlaw inlaw", 6);
        fault(check, "inlaw 5", 6);
        fault(check, "inlaws", 0);
        fault(check, "inla", 0);
        fault(check, " Inlaw", 1);
        fault(check, "5", 0);
        fault(check, "warm 5", 0);
        fault(check, "sat", 0);
        fault(check, "inlaw warm", 10);
        fault(check, "inlaw warm  ", 12);
        fault(check, "inlaw warm sat", 11);
        fault(check, "inlaw warm 100", 11);
        fault(check, "inlaw warm 4294967296", 11);
        fault(check, "inlaw warm 18446744073709551616", 11);
        fault(check, "inlaw warm 5 warm 5", 13);
        fault(check, "inlaw sat warm 5", 10);
        fault(check, "inlaw sat sat", 10);
        fault(check, "inlaw had 0", 6);
        fault(check, "couple", 6);
        fault(check, "couple x", 7);
        fault(check, "couple 10", 7);
        fault(check, "couple 5 had", 12);
        fault(check, "couple 5 had 0", 13);
        fault(check, "couple 5 had 0; inlaw", 13);
        fault(check, "inlaw; couple 5 had 1", 20);
        fault(check, "inlaw; couple 5 had 0 had 0", 22);
        fault(check, "couple 5 sat", 9);
        fault(check, "fire", 4);
        fault(check, "fire 21", 5);
        fault(check, "fire ; inlaw", 5);
        fault(check, "fire 5 6", 7);
        fault(check, "sit 0", 4);
        fault(check, "inlaw; sit 1", 11);
        fault(check, "inlaw; sit", 10);
        fault(check, "inlaw,mother", 5);
        fault(check, "fire\t5", 4);
        fault(check, "fire\n5", 4);
        fault(check, "fire 5?", 6);
        fault(check, "fire -5", 5);
        fault(check, "fire 5;inlaw;couple 5;sit 0;fire 6;mother warm 10 sad", 50);
        fault(check, "fire \u00b5", 5);
        fault(check, "xire 5", 0);
        fault(check, "inlaw xarm 5", 6);
        fault(check, "inlawz", 0);
        fault(check, "inlaw`", 5);
        fault(check, "inlaw{", 5);
        fault(check, "fire 5/", 6);
        fault(check, "fire 5:", 6);
    }

    private static void fault(Check check, String text, int place) {
        PooledInlaws x = new PooledInlaws();
        String before = Check.all(x);
        check.due("'" + text + "'", Check.tell(x, text), -1 - place);
        check.due("nothing changes by '" + text + "'", Check.all(x), before);
        check.due("no finding", x.status(-1), 0);
    }

    /** What stood on THE TAPE before, or would stand behind its last place, is none of it. */
    private static void ends(Check check) {
        PooledInlaws x = new PooledInlaws();
        Check.feed(x, "inlaws 55 ; ;");
        x.wipe();
        check.due("a WORD at the end", Check.tell(x, "inlaw"), 1);
        Check.feed(x, "fire 100  fire");
        x.wipe();
        check.due("a NUMBER at the end", Check.tell(x, "fire 10"), 1);
        Check.feed(x, "fire 1 ;;;");
        x.wipe();
        check.due("a blank at the end", Check.tell(x, "fire 1 "), 1);
        String blanks = " ".repeat(120);
        check.due("120 blanks", Check.tell(x, blanks), -121);
        check.due("120 bytes, the last of a WORD", Check.tell(x, blanks.substring(5) + "uncle"), 1);
        check.due("120 bytes, the last of a NUMBER", Check.tell(x, blanks.substring(6) + "fire17"), 1);
        check.due("120 bytes, the last a SIGN", Check.tell(x, blanks.substring(6) + "uncle;"), -121);
        check.due("120 bytes, the last a blank", Check.tell(x, "uncle" + blanks.substring(5)), 1);
        check.due("120 bytes, the last no TOKEN", Check.tell(x, blanks.substring(6) + "uncle?"), -120);
        check.due("120 letters", Check.tell(x, blanks.replace(' ', 'a')), -1);
        check.due("120 digits", Check.tell(x, "fire" + blanks.substring(4).replace(' ', '9')), -5);
        check.due("20 ITEMS", Check.tell(x, "fire 1".concat(";fire1".repeat(19))), 20);
        check.due("at the end", Check.all(x), "0 1 -1 0 10000 120 / 0 40 0 0 0 / 3 40 0 0 0 / 3 40 0 0 0 # 0");
    }

    private static void room(Check check) {
        PooledInlaws x = Check.of("inlaw;inlaw;inlaw;inlaw;inlaw;inlaw;inlaw;couple 1;couple 1;couple 1;couple 1");
        Check.tell(x, "couple 1;couple 1;couple 1");
        String before = Check.all(x);
        check.due("a 9th in-law", Check.tell(x, "inlaw; uncle warm 500"), -8);
        check.due("a 9th couple", Check.tell(x, "couple 1;couple 99"), -10);
        check.due("nothing changes", Check.all(x), before);
        check.due("an 8th", Check.tell(x, "inlaw;couple 9 had 7;sit 7"), 3);
        check.due("both 8", x.count(0) * 10 + x.count(1), 88);
        check.due("a 9th alone", Check.tell(x, "  blesser"), -3);
        check.due("a 9th couple alone", Check.tell(x, "couple"), -1);
        check.due("others may come", Check.tell(x, "fire 1; sit 0"), 2);
        check.due("no finding", x.status(-1), 0);
    }
}
