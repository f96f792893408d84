/** Each sentence of promises 34 to 38 that names an edge: image, undo, tear, count, status. */
public final class ImageEdgeTest {
    public static void main(String[] args) throws Exception {
        Edges.run(ImageEdgeTest.class);
    }

    // ---- image

    static void promise34_ofNobody(Edges e) {
        e.made().play("image()=1 inlaw(0)=0 couple(5)=0 fire(0)=10 sundays(3)=49 undo()=0")
            .all("0 10 -1 0 10000 0 # 0");
    }

    static void promise34_ofAllEightAndEight(Edges e) {
        Play p = e.crowd(8, 8).play("set(7,1,5) set(7,2,1) set(7,3,6) set(7,4,7) turn(7,5) give(7,0,9) give(7,1,-999) "
            + "give(7,2,7)");
        p.play("sundays(1) image()=1 now(5)=306 now(4)=9015 sundays(9) set(7,1,9) set(7,2,0) set(7,3,0) set(7,4,0) "
            + "turn(7,1) give(7,0,0) give(7,1,0) give(7,2,-1) fire(0) undo()=8 now(0)=1 now(1)=10 now(5)=306 "
            + "now(4)=9015 of(7,0)=5 of(7,1)=5 of(7,2)=1 of(7,3)=7 of(7,4)=7 coupleOf(7,0)=9 coupleOf(7,1)=9001 "
            + "coupleOf(7,2)=7");
    }

    static void promise34_aSecondTakesTheFirstsPlace(Edges e) {
        e.made().play("image()=1 fire(1)=10 image()=1 fire(2)=1 undo()=0 now(1)=1 undo()=0 now(1)=1 tear()=1 "
            + "undo()=NONE");
    }

    static void promise34_theTapeIsNotKept(Edges e) {
        e.made().feed("fire").play("image()=1").feed(" 5").play("undo()=0 count(2)=6 institute()=1 now(1)=5");
        e.made().feed("fire").play("image()=1 wipe()=4 undo()=0 count(2)=0");
    }

    static void promise34_sheetsAreNotKept(Edges e) {
        e.made().play("sheet(0,8,1) write(0,0,5)=0 image()=1 write(0,0,6)=5 sheet(1,8,1) undo()=0 write(0,0,0)=6 "
            + "lays(1)=0 sheet(0,0,0) undo()=0 lays(0)=MISSING");
    }

    static void promise34_whatComesBehindDoesNotTouchIt(Edges e) {
        e.told("inlaw; couple 5").play("image()=1 then(0,100,0)==99 read(3,0,0)=MISSING warm(0,60,1)==0 undo()==1");
    }

    // ---- undo

    static void promise35_noneWhereNothingIsKept(Edges e) {
        e.made().play("undo()=NONE");
        e.told("inlaw; couple 5; fire 3").play("undo()=NONE image() tear() undo()=NONE")
            .all("0 3 0 0 10000 40 / 0 40 0 0 0 | 5 10000 -1 # 0");
    }

    static void promise35_whatWasKeptStays(Edges e) {
        e.told("inlaw").play("image() fire(1) undo()=1 now(1)=10 fire(2) inlaw(3) undo()=1 now(1)=10 count(0)=1 "
            + "undo()==1");
    }

    static void promise35_howManyInlaws(Edges e) {
        e.made().play("image() inlaw(0) undo()=0");
        e.crowd(8, 0).play("image() undo()==8 inlaw(0)=FULL");
    }

    static void promise35_sundayComesBackFrom9999(Edges e) {
        e.told("uncle; couple 5").play("image() " + Edges.sixties(166) + "sundays(39) sundays(1)=STATE undo()=1 "
            + "now(0)=0 sundays(60)=99 now(0)=60");
    }

    // ---- tear

    static void promise36_1IfSomethingWas(Edges e) {
        e.made().play("image() tear()=1 undo()=NONE image() image() tear()=1 tear()==0");
    }

    static void promise36_0IfNothingWas(Edges e) {
        e.made().play("tear()==0 tear()==0 image() tear()=1 tear()==0");
    }

    static void promise36_nothingElseChanges(Edges e) {
        e.told("inlaw; couple 5; fire 3").play("image() fire(4) tear()=1")
            .all("0 4 0 0 10000 40 / 0 40 0 0 0 | 5 10000 -1 # 0");
    }

    // ---- count

    static void promise37_whatIs0To3(Edges e) {
        e.some().play("count(0)==3 count(1)==2 count(2)==6");
        e.told("inlaw; couple 5").play("sundays(9) count(3)==9");
    }

    static void promise37_beyondAnotherWhat(Edges e) {
        e.some().play("count(-1)=BEYOND count(4)=BEYOND count(2147483647)=BEYOND count(-2147483648)=BEYOND");
    }

    static void promise37_theEmpty(Edges e) {
        e.made().play("count(0)==0 count(1)==0 count(2)==0 count(3)==0");
    }

    static void promise37_theFull(Edges e) {
        Play p = e.crowd(8, 8).feed(" ".repeat(120));
        for (int i = 0; i < 8; i++) {
            p.play("set(" + i + ",4,9999)");
        }
        p.play("count(0)==8 count(1)==8 count(2)==120 count(3)==79992 sundays(1) count(3)==79992");
    }

    // ---- status

    static void promise38_whichIsMinus1To6(Edges e) {
        e.made().play("status(-1)==0 status(0)==0 status(1)==0 status(2)==0 status(3)==0 status(4)==0 status(5)==0 "
            + "status(6)==0");
    }

    static void promise38_beyondIsCountedFromThenOn(Edges e) {
        e.some().play("status(7)=BEYOND status(0)=1 status(-1)=1 status(-2)=BEYOND status(0)=2 "
            + "status(2147483647)=BEYOND status(-2147483648)=BEYOND status(0)=4 status(-1)=4");
    }

    static void promise38_eachOfItsOwn(Edges e) {
        e.crowd(8, 0).play("fire(21)=BEYOND status(0)=1 status(-1)=1 inlaw(0)=FULL status(1)=1 status(-1)=2 "
            + "as(0,1)=KIND status(2)=1 status(-1)=3 undo()=NONE status(3)=1 status(-1)=4 lays(0)=MISSING status(5)=1 "
            + "status(-1)=5 sheet(0,8,-1)=SIZE status(6)=1 status(-1)=6 status(4)=0 status(0)=1");
        e.made().play(Edges.sixties(166) + "sundays(40)=STATE status(4)=1 status(-1)=1 status(0)=0");
    }

    static void promise38_undoTakesNoneBack(Edges e) {
        e.made().play("image() fire(21)=BEYOND undo()=0 status(0)=1 status(-1)=1 tear()=1 undo()=NONE status(3)=1 "
            + "status(-1)=2");
    }

    static void promise38_findingsOfLongsCountToo(Edges e) {
        e.made().play("write(4,0,0)=BEYOND write(0,0,0)=MISSING status(0)=1 status(5)=1 status(-1)=2");
    }

    static void promise38_whatIsNoFindingDoesNotCount(Edges e) {
        e.told("couple 5").fault("?", 0).play("now(2)=0 coupleOf(0,2)=-1 coupleOf(0,3)=-1 tear()=0 wipe()=0 "
            + "sheet(0,64,1)=1 write(0,0,-1000000007)=0 write(0,0,0)=-1000000007 status(-1)=0 status(6)=0");
    }
}
