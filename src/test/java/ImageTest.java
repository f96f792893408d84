/** Promises 34 to 38: image, undo, tear, count, status. */
public final class ImageTest {
    public static void main(String[] args) {
        Check check = new Check();
        images(check);
        count(check);
        status(check);
        check.end();
    }

    private static void images(Check check) {
        PooledInlaws x = Check.of("mother warm 9 sat; tartar; couple 3 had 1; fire 4");
        x.sundays(3);
        x.set(0, 3, 8);
        x.set(1, 4, 7);
        x.give(0, 1, -77);
        String first = Check.all(x);
        check.due("tear() of none", x.tear(), 0);
        check.due("undo() of none", x.undo(), Check.NONE);
        check.due("nothing changes", Check.all(x), first);
        check.due("image()", x.image(), 1);
        Check.tell(x, "uncle; couple 5; fire 20; sit 1");
        x.turn(0, 2);
        x.sundays(5);
        String second = Check.all(x);
        check.due("undo()", x.undo(), 2);
        check.due("as it was", Check.all(x), first);
        x.sundays(9);
        x.inlaw(0);
        x.inlaw(0);
        check.due("undo() again", x.undo(), 2);
        check.due("as it was", Check.all(x), first);
        Check.tell(x, "uncle; couple 5; fire 20; sit 1");
        x.turn(0, 2);
        x.sundays(5);
        check.due("the same acts", Check.all(x), second);
        check.due("image()", x.image(), 1);
        x.sundays(5);
        check.due("undo() to the latest", x.undo(), 3);
        check.due("as it was latest", Check.all(x), second);
        check.due("tear()", x.tear(), 1);
        check.due("tear()", x.tear(), 0);
        check.due("undo()", x.undo(), Check.NONE);
        check.due("tear() changes nothing", Check.all(x), second);
        x.image();
        Check.feed(x, "fire");
        x.undo();
        check.due("THE TAPE is not kept", x.count(2), 4);
        PooledInlaws y = new PooledInlaws();
        y.image();
        y.inlaw(0);
        check.due("undo() to none", y.undo(), 0);
    }

    private static void count(Check check) {
        PooledInlaws x = Check.of("inlaw; mother; tartar; couple 5; couple 5");
        x.feed(0, 3);
        x.set(0, 4, 100);
        x.sundays(4);
        int[] due = {3, 2, 3, 108};
        for (int what = 0; what <= 3; what++) {
            check.due("count(" + what + ")", x.count(what), due[what]);
        }
        check.due("count(4)", x.count(4), Check.BEYOND);
        check.due("count(-1)", x.count(-1), Check.BEYOND);
    }

    private static void status(Check check) {
        PooledInlaws x = new PooledInlaws();
        all(check, x, 0, 0, 0, 0, 0, 0, 0);
        x.image();
        x.fire(21);
        for (int i = 0; i < 9; i++) {
            x.inlaw(3);
        }
        x.as(0, 1);
        x.cold(0);
        x.lays(0);
        x.sheet(0, 8, -1);
        all(check, x, 1, 1, 1, 1, 0, 1, 1);
        x.undo();
        check.due("undo() takes none back", x.status(-1), 6);
        check.due("status(7)", x.status(7), Check.BEYOND);
        check.due("status(-2)", x.status(-2), Check.BEYOND);
        all(check, x, 3, 1, 1, 1, 0, 1, 1);
        for (int k = 0; k < 166; k++) {
            x.sundays(60);
        }
        x.sundays(60);
        x.sundays(40);
        all(check, x, 3, 1, 1, 1, 2, 1, 1);
        x.feed(0, 1);
        check.due("a FAULT is no finding", x.institute(), -1);
        check.due("nor is -1", x.now(2), -1);
        all(check, x, 3, 1, 1, 1, 2, 1, 1);
    }

    private static void all(Check check, PooledInlaws x, int... due) {
        int sum = 0;
        for (int which = 0; which < 7; which++) {
            check.due("status(" + which + ")", x.status(which), due[which]);
            sum += due[which];
        }
        check.due("status(-1)", x.status(-1), sum);
    }
}
