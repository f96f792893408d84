/** Each sentence of promises 1 to 3 that names an edge: a new object, fire, now. */
public final class InstituteEdgeTest {
    public static void main(String[] args) throws Exception {
        Edges.run(InstituteEdgeTest.class);
    }

    static void promise01_noInlaws(Edges e) {
        e.made().play("count(0)==0 count(3)==0 now(3)==0 now(5)==0 of(0,0)=BEYOND");
    }

    static void promise01_noCouples(Edges e) {
        e.made().play("count(1)==0 now(2)==-1 now(4)==10000 coupleOf(0,0)=BEYOND");
    }

    static void promise01_theTapeIsEmpty(Edges e) {
        e.made().play("count(2)==0 wipe()==0 institute()==-1");
    }

    static void promise01_noImageIsKept(Edges e) {
        e.made().play("tear()==0 undo()=NONE");
    }

    static void promise01_whatTermsSayOfTheFirst(Edges e) {
        e.made().play("now(0)==0 now(1)==10 lays(0)=MISSING lays(1)=MISSING lays(2)=MISSING lays(3)=MISSING");
    }

    static void promise01_nothingWasFound(Edges e) {
        e.made().play("status(-1)==0 status(0)==0 status(1)==0 status(2)==0 status(3)==0 status(4)==0 status(5)==0 "
            + "status(6)==0");
    }

    static void promise01_nothingOfAnotherObject(Edges e) {
        e.some().play("inlaw(6)=BEYOND");
        e.made().play("count(0)==0 count(1)==0 count(2)==0 now(0)==0 now(1)==10 lays(0)=MISSING undo()=NONE "
            + "status(-1)=2");
    }

    static void promise02_fireIs0To20(Edges e) {
        e.some().play("fire(0)=3 now(1)=0 fire(20)=0 now(1)=20 fire(20)==20 fire(1)=20 now(1)=1");
    }

    static void promise02_beyond20(Edges e) {
        e.some().play("fire(21)=BEYOND fire(2147483647)=BEYOND now(1)=3");
    }

    static void promise02_beyondBelow0(Edges e) {
        e.some().play("fire(-1)=BEYOND fire(-2147483648)=BEYOND now(1)=3");
    }

    static void promise03_whatIs0To5(Edges e) {
        // SUNDAY 2; FIRE 3; 2 couples: 0 is first; in-law 0 is SAT ON.
        e.some().play("now(0)==2 now(1)==3 now(2)==0 now(3)==1 fire(3)==3");
    }

    static void promise03_beyondAnotherWhat(Edges e) {
        e.some().play("now(-1)=BEYOND now(6)=BEYOND now(2147483647)=BEYOND now(-2147483648)=BEYOND");
    }

    static void promise03_nobodyIsFirstWhereNoneIs(Edges e) {
        e.told("inlaw").play("now(2)==-1 sundays(1) now(2)==-1 couple(5)=0 now(2)==0");
    }

    static void promise03_theFirstGoesRound(Edges e) {
        Play three = e.crowd(0, 3);
        three.play("now(2)==0 sundays(1) now(2)==1 sundays(1) now(2)==2 sundays(1) now(2)==0 sundays(1) now(2)==1");
        e.crowd(0, 1).play("now(2)==0 sundays(1) now(2)==0 sundays(6) now(2)==0");
        e.crowd(0, 8).play("now(2)==0 sundays(7) now(2)==7 sundays(1) now(2)==0 sundays(9) now(2)==1");
    }

    static void promise03_theFirstGoesByHowManyThereAreNow(Edges e) {
        e.crowd(0, 2).play("sundays(5) now(2)==1 couple(5)=2 now(2)==2 couple(5)=3 now(2)==1");
    }

    static void promise03_satOnAsASetFromNoneToAll(Edges e) {
        Play p = e.crowd(8, 0).play("now(3)==0 set(0,2,1) now(3)==1 set(7,2,1) now(3)==129");
        p.play("set(1,2,1) set(2,2,1) set(3,2,1) set(4,2,1) set(5,2,1) set(6,2,1) now(3)==255 set(0,2,0) now(3)==254");
    }

    static void promise03_wellOfAllAtItsBounds(Edges e) {
        Play p = e.crowd(0, 8);
        for (int c = 0; c < 8; c++) {
            p.play("give(" + c + ",1,999)=0");
        }
        p.play("now(4)==17992");
        for (int c = 0; c < 8; c++) {
            p.play("give(" + c + ",1,-999)=999");
        }
        p.play("now(4)==2008");
    }

    static void promise03_warmOfAllAtItsBounds(Edges e) {
        Play p = e.crowd(8, 0).play("now(5)==320");
        for (int i = 0; i < 8; i++) {
            p.play("set(" + i + ",1,99)=40");
        }
        p.play("now(5)==792");
        for (int i = 0; i < 8; i++) {
            p.play("set(" + i + ",1,0)=99");
        }
        p.play("now(5)==0");
    }

    static void promise03_sundayAtItsBounds(Edges e) {
        e.made().play("now(0)==0 " + Edges.sixties(166) + "now(0)=9960 sundays(39)=0 now(0)=9999");
    }
}
