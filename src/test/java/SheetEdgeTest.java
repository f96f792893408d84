/** Each sentence of promises 28 to 33 that names an edge: sheet, write, copy, lays, book, read. */
public final class SheetEdgeTest {
    public static void main(String[] args) throws Exception {
        Edges.run(SheetEdgeTest.class);
    }

    // ---- sheet

    static void promise28_sheetsAre0To3(Edges e) {
        e.made().play("sheet(0,8,1)=1 sheet(1,8,2)=2 sheet(2,8,3)=3 sheet(3,8,4)=4 lays(3)=0");
    }

    static void promise28_beyondNoSuchSheet(Edges e) {
        e.some().play("sheet(4,8,1)=BEYOND sheet(-1,8,1)=BEYOND sheet(4,0,0)=BEYOND sheet(2147483647,8,1)=BEYOND "
            + "sheet(-2147483648,8,1)=BEYOND");
    }

    static void promise28_bitsAre0Or8Or16Or64(Edges e) {
        e.some().play("sheet(0,8,1)=1 sheet(0,16,1)=1 sheet(0,64,1)=1 sheet(0,0,1)=0");
    }

    static void promise28_beyondOtherBits(Edges e) {
        e.some().play("sheet(0,1,1)=BEYOND sheet(0,7,1)=BEYOND sheet(0,9,1)=BEYOND sheet(0,15,1)=BEYOND "
            + "sheet(0,17,1)=BEYOND sheet(0,32,1)=BEYOND sheet(0,63,1)=BEYOND sheet(0,65,1)=BEYOND "
            + "sheet(0,-1,1)=BEYOND sheet(0,-8,1)=BEYOND sheet(0,2147483647,1)=BEYOND sheet(0,-2147483648,1)=BEYOND");
    }

    static void promise28_nIs0To40(Edges e) {
        e.some().play("sheet(0,8,0)=0 write(0,0,1)=BEYOND lays(0)=0 sheet(0,8,1)=1 sheet(0,8,40)=40 write(0,39,7)=0 "
            + "write(0,40,7)=BEYOND write(0,39,7)=7 sheet(1,16,40)=40 sheet(2,64,40)=40");
    }

    static void promise28_sizeBelow0(Edges e) {
        e.some().play("sheet(0,8,-1)=SIZE sheet(0,16,-1)=SIZE sheet(0,64,-1)=SIZE sheet(0,8,-2147483648)=SIZE");
    }

    static void promise28_sizeBelow0WithBits0(Edges e) {
        e.some().play("sheet(0,0,-1)=SIZE sheet(3,0,-1)=SIZE sheet(0,0,-2147483648)=SIZE");
    }

    static void promise28_beyondAbove40(Edges e) {
        e.some().play("sheet(0,8,41)=BEYOND sheet(0,16,41)=BEYOND sheet(0,64,41)=BEYOND sheet(0,8,2147483647)=BEYOND");
    }

    static void promise28_beyondAbove40WithBits0(Edges e) {
        e.some().play("sheet(0,0,41)=BEYOND sheet(3,0,41)=BEYOND sheet(0,0,2147483647)=BEYOND");
    }

    static void promise28_beyondOfSheetAndBitsIsAskedAheadOfSize(Edges e) {
        e.some().play("sheet(4,8,-1)=BEYOND sheet(-1,0,-1)=BEYOND sheet(0,32,-1)=BEYOND sheet(0,-8,-1)=BEYOND");
    }

    static void promise28_bits0IsMissingAndAnswers0(Edges e) {
        e.some().play("sheet(0,0,0)=0 lays(0)=MISSING sheet(1,0,40)=0 lays(1)=MISSING sheet(3,0,1)==0 lays(3)=MISSING");
    }

    static void promise28_allAre0(Edges e) {
        e.some().play("sheet(0,8,3)=3 write(0,0,9)=0 write(0,1,9)=0 write(0,2,9)=0 sheet(0,8,1)=1 sheet(0,8,3)=3 "
            + "write(0,0,9)=0 write(0,1,9)=0 write(0,2,9)=0 sheet(0,0,0)=0 sheet(0,16,3)=3 write(0,0,9)=0 "
            + "write(0,2,9)=0");
    }

    static void promise28_theOthersStay(Edges e) {
        e.some().play("sheet(1,64,1)=1 write(0,0,0)=1 write(0,1,0)=-2 write(0,2,0)=3 write(2,0,0)=5000000000 "
            + "lays(3)=MISSING");
    }

    // ---- write

    static void promise29_numbersAre0ToTheLast(Edges e) {
        e.some().play("write(0,0,5)=1 write(0,2,6)=3 write(0,3,1)=BEYOND write(0,-1,1)=BEYOND write(0,40,1)=BEYOND "
            + "write(0,2147483647,1)=BEYOND write(0,-2147483648,1)=BEYOND write(0,0,0)=5 write(0,2,0)=6 "
            + "write(0,1,0)=-2");
    }

    static void promise29_noNumberIsThere(Edges e) {
        e.some().play("sheet(0,8,0) write(0,0,1)=BEYOND write(0,-1,1)=BEYOND");
    }

    static void promise29_beyondNoSuchSheet(Edges e) {
        e.some().play("write(4,0,1)=BEYOND write(-1,0,1)=BEYOND write(2147483647,0,1)=BEYOND "
            + "write(-2147483648,0,1)=BEYOND");
    }

    static void promise29_missing(Edges e) {
        e.some().play("write(3,0,1)=MISSING sheet(0,0,3) write(0,0,1)=MISSING");
    }

    static void promise29_missingIsAskedAheadOfTheNumber(Edges e) {
        e.some().play("write(3,-1,1)=MISSING write(3,40,1)=MISSING write(4,-1,1)=BEYOND");
    }

    static void promise29_theLowest8Bits(Edges e) {
        e.made().play("sheet(0,8,1) write(0,0,127)=0 write(0,0,128)=127 write(0,0,-128)=-128 write(0,0,-129)=-128 "
            + "write(0,0,255)=127 write(0,0,256)=-1 write(0,0,257)=0 write(0,0,9223372036854775807)=1 "
            + "write(0,0,-9223372036854775808)=-1 write(0,0,0)=0");
    }

    static void promise29_theLowest16Bits(Edges e) {
        e.made().play("sheet(0,16,1) write(0,0,32767)=0 write(0,0,32768)=32767 write(0,0,-32768)=-32768 "
            + "write(0,0,-32769)=-32768 write(0,0,65535)=32767 write(0,0,65536)=-1 write(0,0,65537)=0 "
            + "write(0,0,128)=1 write(0,0,9223372036854775807)=128 write(0,0,-9223372036854775808)=-1 write(0,0,0)=0");
    }

    static void promise29_all64Bits(Edges e) {
        e.made().play("sheet(0,64,1) write(0,0,9223372036854775807)=0 "
            + "write(0,0,-9223372036854775808)=9223372036854775807 write(0,0,4294967296)=-9223372036854775808 "
            + "write(0,0,32768)=4294967296 write(0,0,0)=32768");
    }

    static void promise29_aNumberLikeAFindingIsNone(Edges e) {
        e.made().play("sheet(0,64,1) write(0,0,-1000000001)=0 write(0,0,-1000000006)=-1000000001 "
            + "write(0,0,0)=-1000000006 status(-1)=0");
    }

    // ---- copy

    static void promise30_ofNoneIs0(Edges e) {
        e.some().play("copy(0,0,0,0,0)==0 copy(0,3,0,3,0)==0 copy(0,3,0,0,0)==0 sheet(3,8,0) copy(0,3,3,0,0)==0 "
            + "copy(3,0,3,0,0)==0");
    }

    static void promise30_allOfThem(Edges e) {
        e.some().play("sheet(3,8,3) copy(0,0,3,0,3)=3 write(3,0,0)=1 write(3,1,0)=-2 write(3,2,0)=3 write(0,0,0)=1");
        e.made().play("sheet(0,64,40) sheet(1,64,40) write(0,39,7) write(0,0,6) copy(0,0,1,0,40)=40 write(1,39,0)=7 "
            + "write(1,0,0)=6");
    }

    static void promise30_theLastOfThem(Edges e) {
        e.some().play("sheet(3,8,4) copy(0,2,3,3,1)=1 write(3,3,0)=3 write(3,2,0)=0 copy(0,1,3,2,2)=2 write(3,2,0)=-2 "
            + "write(3,3,0)=3");
    }

    static void promise30_asTheyAllWereForward(Edges e) {
        e.made().play("sheet(0,16,4) write(0,0,10) write(0,1,11) write(0,2,12) write(0,3,13) copy(0,0,0,1,3)=3 "
            + "write(0,0,0)=10 write(0,1,0)=10 write(0,2,0)=11 write(0,3,0)=12");
    }

    static void promise30_asTheyAllWereBack(Edges e) {
        e.made().play("sheet(0,16,4) write(0,0,10) write(0,1,11) write(0,2,12) write(0,3,13) copy(0,1,0,0,3)=3 "
            + "write(0,0,0)=11 write(0,1,0)=12 write(0,2,0)=13 write(0,3,0)=13");
    }

    static void promise30_onItself(Edges e) {
        e.some().play("copy(0,0,0,0,3)==3 copy(2,0,2,0,4)==4");
    }

    static void promise30_beyondNoSuchSheet(Edges e) {
        e.some().play("copy(4,0,0,0,1)=BEYOND copy(-1,0,0,0,1)=BEYOND copy(0,0,4,0,1)=BEYOND copy(0,0,-1,0,1)=BEYOND "
            + "copy(2147483647,0,0,0,1)=BEYOND copy(0,0,-2147483648,0,1)=BEYOND");
    }

    static void promise30_missing(Edges e) {
        e.some().play("copy(3,0,0,0,1)=MISSING copy(0,0,3,0,1)=MISSING copy(3,0,3,0,1)=MISSING "
            + "copy(3,0,3,0,0)=MISSING");
    }

    static void promise30_kindOfOtherBits(Edges e) {
        e.some().play("copy(0,0,1,0,1)=KIND copy(1,0,0,0,1)=KIND copy(1,0,2,0,1)=KIND copy(2,0,0,0,0)=KIND");
    }

    static void promise30_theOneHasNotSoMany(Edges e) {
        e.some().play("sheet(3,8,40) copy(0,0,3,0,3)=3 copy(0,0,3,0,4)=BEYOND copy(0,1,3,0,3)=BEYOND "
            + "copy(0,3,3,0,1)=BEYOND copy(0,4,3,0,0)=BEYOND copy(0,2147483647,3,0,1)=BEYOND "
            + "copy(0,1,3,0,2147483647)=BEYOND copy(0,2147483647,3,0,2147483647)=BEYOND");
    }

    static void promise30_theOtherHasNotSoMany(Edges e) {
        e.some().play("sheet(3,8,40) copy(3,0,0,0,4)=BEYOND copy(3,0,0,1,3)=BEYOND copy(3,0,0,3,1)=BEYOND "
            + "copy(3,0,0,4,0)=BEYOND copy(3,0,0,2147483647,1)=BEYOND copy(3,0,0,2147483647,2147483647)=BEYOND "
            + "copy(3,0,0,0,3)=3");
    }

    static void promise30_fromOrToOrNBelow0(Edges e) {
        e.some().play("copy(0,-1,0,0,1)=BEYOND copy(0,0,0,-1,1)=BEYOND copy(0,0,0,0,-1)=BEYOND "
            + "copy(0,-1,0,0,0)=BEYOND copy(0,0,0,-1,0)=BEYOND copy(0,3,0,3,-3)=BEYOND "
            + "copy(0,-2147483648,0,0,1)=BEYOND copy(0,0,0,-2147483648,1)=BEYOND copy(0,0,0,0,-2147483648)=BEYOND "
            + "copy(0,-2147483648,0,-2147483648,-2147483648)=BEYOND");
    }

    static void promise30_theOrderAsked(Edges e) {
        e.some().play("copy(4,-1,3,-1,-1)=BEYOND copy(3,-1,4,-1,-1)=BEYOND copy(3,-1,0,-1,-1)=MISSING "
            + "copy(0,-1,3,-1,-1)=MISSING copy(0,-1,1,-1,-1)=KIND copy(0,0,1,0,9)=KIND");
    }

    // ---- lays

    static void promise31_warmIs0To99(Edges e) {
        e.crowd(4, 0).play("sheet(0,16,4) write(0,0,0) write(0,1,99) write(0,2,100) write(0,3,-1) lays(0)=2 of(0,1)=0 "
            + "of(1,1)=99 of(2,1)=40 of(3,1)=40");
    }

    static void promise31_farFromWarm(Edges e) {
        e.crowd(4, 0).play("sheet(0,64,4) write(0,0,9223372036854775807) write(0,1,-9223372036854775808) "
            + "write(0,2,4294967301) write(0,3,-4294967291) lays(0)==0");
    }

    static void promise31_thoseThatStandForNoneAreLeftOut(Edges e) {
        e.crowd(2, 0).play("sheet(0,8,40) write(0,2,7) lays(0)=2 now(5)=0 inlaw(0)=2 of(2,1)=40");
    }

    static void promise31_thoseWithoutANumberStay(Edges e) {
        e.crowd(3, 0).play("sheet(0,8,1) write(0,0,5) lays(0)=1 of(0,1)=5 of(1,1)=40 of(2,1)=40");
    }

    static void promise31_oneLeftOutDoesNotMoveTheNext(Edges e) {
        e.crowd(3, 0).play("sheet(0,8,3) write(0,0,5) write(0,1,-5) write(0,2,6) lays(0)=2 of(0,1)=5 of(1,1)=40 "
            + "of(2,1)=6");
    }

    static void promise31_allEight(Edges e) {
        e.crowd(8, 0).play("sheet(0,8,8) write(0,7,99) lays(0)=8 of(7,1)=99 of(6,1)=0 now(5)=99");
    }

    static void promise31_noNumbersOrNobodyThere(Edges e) {
        e.crowd(2, 0).play("sheet(0,8,0) lays(0)==0");
        e.made().play("sheet(0,8,40) lays(0)==0");
    }

    static void promise31_beyondNoSuchSheet(Edges e) {
        e.some().play("lays(4)=BEYOND lays(-1)=BEYOND lays(2147483647)=BEYOND lays(-2147483648)=BEYOND");
    }

    static void promise31_missing(Edges e) {
        e.some().play("lays(3)=MISSING");
    }

    // ---- book

    static void promise32_from0Ahead(Edges e) {
        e.told("inlaw; couple 5").play("give(0,1,7) sheet(0,16,3) book(0,0)=3 write(0,0,0)=7 write(0,1,0)=9 "
            + "write(0,2,0)=11 now(0)=0 coupleOf(0,1)=10007");
    }

    static void promise32_noNumbers(Edges e) {
        e.told("inlaw; couple 5").play("sheet(0,16,0) book(0,0)==0");
    }

    static void promise32_fortyNumbers(Edges e) {
        e.told("inlaw; couple 5").play("sheet(0,8,40) book(0,0)=40 write(0,39,0)=78 write(0,0,0)=0");
    }

    static void promise32_itsLowest8Bits(Edges e) {
        e.told("inlaw; couple 5").play("give(0,1,126) sheet(0,8,3) book(0,0)=3 write(0,0,0)=126 write(0,1,0)=-128 "
            + "write(0,2,0)=-126 give(0,1,-129) book(0,0)=3 write(0,0,0)=127 write(0,1,0)=-127");
    }

    static void promise32_wellAtItsBounds(Edges e) {
        e.told("inlaw; couple 5").play("give(0,1,997) sheet(0,16,3) book(0,0)=3 write(0,0,0)=997 write(0,1,0)=999 "
            + "write(0,2,0)=999");
        e.told("couple 5").play("give(0,1,-998) sheet(0,64,3) book(0,0)=3 write(0,0,0)=-998 write(0,1,0)=-999 "
            + "write(0,2,0)=-999");
    }

    static void promise32_beyondNoSuchSheet(Edges e) {
        e.some().play("book(4,0)=BEYOND book(-1,0)=BEYOND book(2147483647,0)=BEYOND book(-2147483648,0)=BEYOND");
    }

    static void promise32_missing(Edges e) {
        e.some().play("book(3,0)=MISSING");
    }

    static void promise32_beyondNoSuchCouple(Edges e) {
        e.some().play("book(0,1)=3 book(0,2)=BEYOND book(0,-1)=BEYOND book(0,2147483647)=BEYOND "
            + "book(0,-2147483648)=BEYOND");
        e.told("inlaw").play("sheet(0,8,0) book(0,0)=BEYOND");
        e.crowd(0, 8).play("sheet(0,8,2) book(0,7)=2 book(0,8)=BEYOND");
    }

    static void promise32_missingIsAskedAheadOfTheCouple(Edges e) {
        e.some().play("book(3,2)=MISSING book(3,-1)=MISSING book(4,2)=BEYOND");
    }

    // ---- read

    static void promise33_noNumbersAllPairs(Edges e) {
        e.told("inlaw; couple 5").play("sheet(0,8,0) read(0,0,0)==60 sheet(0,64,0) read(0,0,0)==60");
    }

    static void promise33_oneNumberIsWellNow(Edges e) {
        e.told("inlaw; couple 5").play("give(0,1,-7) sheet(0,8,1) read(0,0,0)==0 write(0,0,-7) read(0,0,0)==60 "
            + "write(0,0,7) read(0,0,0)==0 write(0,0,-6) read(0,0,0)==0");
    }

    static void promise33_eachKindAndEachLoud(Edges e) {
        // FIRE 9, WARM 40: INLAW and FATHER DO 2, MOTHER 2 to LOUD 6 and 1 from 7 on, UNCLE 0, TARTAR -4, BLESSER 4.
        e.told("inlaw; couple 5; fire 9").play("sheet(0,8,2) write(0,1,2) read(0,0,0)==27 write(0,1,1) read(0,0,0)==3 "
            + "write(0,1,0) read(0,0,0)==10 write(0,1,-4) read(0,0,0)==10 write(0,1,4) read(0,0,0)==10 write(0,1,3) "
            + "read(0,0,0)==0");
    }

    static void promise33_thePairThereIsNeedNotBeOne(Edges e) {
        e.told("uncle; couple 5").play("sheet(0,16,40) book(0,0)=40 read(0,0,0)==10 write(0,39,1)=0 read(0,0,0)==0");
    }

    static void promise33_theLastOfFortyCounts(Edges e) {
        // The INLAW DOES 2 each time: so do FATHER without a fire, and MOTHER below LOUD 7.
        e.told("inlaw; couple 5; fire 0").play("sheet(0,16,40) book(0,0)=40 read(0,0,0)==27 write(0,39,77)=78 "
            + "read(0,0,0)==0 write(0,39,78)=77 read(0,0,0)==27");
    }

    static void promise33_numbersAsTheyStand(Edges e) {
        // 256 can't stand in 8 bits: what book() left of it is not WELL.
        e.told("inlaw; couple 5").play("give(0,1,256) sheet(0,8,1) book(0,0)=1 read(0,0,0)==0 sheet(0,16,1) "
            + "book(0,0)=1 read(0,0,0)==60");
    }

    static void promise33_farFromWell(Edges e) {
        e.told("inlaw; couple 5").play("sheet(0,64,1) write(0,0,4294967296) read(0,0,0)==0 "
            + "write(0,0,-9223372036854775808) read(0,0,0)==0 write(0,0,9223372036854775807) read(0,0,0)==0");
    }

    static void promise33_anInlawThatItDoesNotHave(Edges e) {
        e.told("inlaw; uncle sat; couple 5").play("sheet(0,8,2) write(0,1,2) read(0,0,1)==60");
    }

    static void promise33_beyondNoSuchSheet(Edges e) {
        e.some().play("read(4,0,0)=BEYOND read(-1,0,0)=BEYOND read(2147483647,0,0)=BEYOND "
            + "read(-2147483648,0,0)=BEYOND");
    }

    static void promise33_missing(Edges e) {
        e.some().play("read(3,0,0)=MISSING");
    }

    static void promise33_beyondNoSuchCouple(Edges e) {
        e.some().play("read(0,1,0) read(0,2,0)=BEYOND read(0,-1,0)=BEYOND read(0,2147483647,0)=BEYOND "
            + "read(0,-2147483648,0)=BEYOND");
        e.told("inlaw").play("sheet(0,8,0) read(0,0,0)=BEYOND");
        e.crowd(8, 8).play("sheet(0,8,0) read(0,7,7)==60 read(0,8,7)=BEYOND");
    }

    static void promise33_beyondNoSuchOne(Edges e) {
        e.some().play("read(0,0,2) read(0,0,3)=BEYOND read(0,0,-1)=BEYOND read(0,0,2147483647)=BEYOND "
            + "read(0,0,-2147483648)=BEYOND");
        e.told("couple 5").play("sheet(0,8,0) read(0,0,0)=BEYOND");
        e.crowd(8, 8).play("sheet(0,8,0) read(0,7,8)=BEYOND");
    }

    static void promise33_missingIsAskedAheadOfTheTwo(Edges e) {
        e.some().play("read(3,2,0)=MISSING read(3,0,3)=MISSING read(3,-1,-1)=MISSING read(4,2,3)=BEYOND");
    }
}
