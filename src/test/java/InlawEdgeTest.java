/** Each sentence of promises 4 to 9 that names an edge: inlaw, of, with, set, turn, as. */
public final class InlawEdgeTest {
    public static void main(String[] args) throws Exception {
        Edges.run(InlawEdgeTest.class);
    }

    // ---- inlaw

    static void promise04_kindsAre0To5(Edges e) {
        e.made().play("inlaw(0)=0 of(0,0)=0 inlaw(5)=1 of(1,0)=5 inlaw(3)=2 of(2,0)=3");
    }

    static void promise04_beyondKindBelow0(Edges e) {
        e.some().play("inlaw(-1)=BEYOND inlaw(-2147483648)=BEYOND count(0)=3");
    }

    static void promise04_beyondKindAbove5(Edges e) {
        e.some().play("inlaw(6)=BEYOND inlaw(2147483647)=BEYOND count(0)=3");
    }

    static void promise04_the8thIsTheLast(Edges e) {
        e.crowd(7, 0).play("inlaw(4)=7 of(7,0)=4 count(0)=8 inlaw(4)=FULL inlaw(0)=FULL count(0)=8");
    }

    static void promise04_beyondIsAskedAheadOfFull(Edges e) {
        e.crowd(8, 0).play("inlaw(-1)=BEYOND inlaw(6)=BEYOND inlaw(5)=FULL");
    }

    static void promise04_oneMoreIsAsAtFirst(Edges e) {
        e.some().play("inlaw(5)=3 of(3,1)=40 of(3,2)=0 of(3,3)=0 of(3,4)=0");
        // Where one stood that was undone, too.
        e.made().play("image() inlaw(0) set(0,1,9) set(0,2,1) set(0,3,8) set(0,4,7) undo()=0 inlaw(2)=0")
            .all("0 10 -1 0 10000 40 / 2 40 0 0 0 # 0");
    }

    // ---- of

    static void promise05_whatIs0To5(Edges e) {
        e.told("blesser warm 7 sat").play("set(0,3,8) set(0,4,9) fire(9)")
            .play("of(0,0)==5 of(0,1)==7 of(0,2)==1 of(0,3)==8 of(0,4)==9 of(0,5)==1");
    }

    static void promise05_beyondAnotherWhat(Edges e) {
        e.some().play("of(0,-1)=BEYOND of(0,6)=BEYOND of(2,-2147483648)=BEYOND of(2,2147483647)=BEYOND");
    }

    static void promise05_beyondNoSuchOne(Edges e) {
        e.some().play("of(2,0)==3 of(3,0)=BEYOND of(-1,0)=BEYOND of(8,0)=BEYOND of(2147483647,0)=BEYOND "
            + "of(-2147483648,5)=BEYOND");
        e.made().play("of(0,0)=BEYOND");
        e.crowd(8, 0).play("of(7,1)==40 of(8,1)=BEYOND");
    }

    static void promise05_chillsByFire(Edges e) {
        e.told("inlaw; mother; father; uncle; tartar; blesser")
            .play("fire(0) of(0,5)==2 of(1,5)==4 of(2,5)==2 of(3,5)==0 of(4,5)==4 of(5,5)==1")
            .play("fire(9) of(2,5)==2 of(5,5)==1 fire(10) of(2,5)==1 of(5,5)==0 fire(19) of(2,5)==1")
            .play("fire(20) of(0,5)==2 of(1,5)==4 of(2,5)==0 of(3,5)==0 of(4,5)==4 of(5,5)==0");
    }

    static void promise05_aBlesserChillsBy0AtLeast(Edges e) {
        e.told("blesser; fire 20").play("of(0,5)==0 sundays(1)=40");
    }

    // ---- with

    static void promise06_beyondNoSuchOne(Edges e) {
        e.some().play("with(2,0,0)==4 with(3,0,0)=BEYOND with(-1,0,0)=BEYOND with(2147483647,0,0)=BEYOND "
            + "with(-2147483648,0,0)=BEYOND");
        e.told("couple 5").play("with(0,0,0)=BEYOND");
    }

    static void promise06_beyondNoSuchCouple(Edges e) {
        e.some().play("with(2,1,0)==4 with(2,2,0)=BEYOND with(2,-1,0)=BEYOND with(2,2147483647,0)=BEYOND "
            + "with(2,-2147483648,0)=BEYOND");
        e.told("inlaw").play("with(0,0,0)=BEYOND");
    }

    static void promise06_beyondAnotherWhat(Edges e) {
        e.some().play("with(2,0,0)==4 with(2,0,1)==100 with(2,0,2)==101 with(2,0,3)=BEYOND with(2,0,-1)=BEYOND "
            + "with(2,0,2147483647)=BEYOND with(2,0,-2147483648)=BEYOND");
    }

    static void promise06_theLastOfEightWithTheLastOfEight(Edges e) {
        e.crowd(8, 8).play("with(7,7,0)==4 with(7,7,1)==102 with(7,7,2)==103 with(8,7,0)=BEYOND with(7,8,0)=BEYOND");
    }

    static void promise06_anInlawCharmsByWarmByTenCut(Edges e) {
        e.told("inlaw warm 0; couple 5").play("with(0,0,0)==0 set(0,1,9) with(0,0,0)==0 set(0,1,10) with(0,0,0)==1 "
            + "set(0,1,89) with(0,0,0)==8 set(0,1,90) with(0,0,0)==9 set(0,1,99) with(0,0,0)==9");
    }

    static void promise06_aMotherCharmsThoseBelow4(Edges e) {
        e.told("mother; couple 0").play("with(0,0,0)==7 give(0,0,3) with(0,0,0)==7 give(0,0,4) with(0,0,0)==4 "
            + "give(0,0,9) with(0,0,0)==4");
    }

    static void promise06_aFatherCharmsByLoudByTwoCut(Edges e) {
        e.told("father; couple 0").play("with(0,0,0)==4 give(0,0,1) with(0,0,0)==4 give(0,0,2) with(0,0,0)==5 "
            + "give(0,0,3) with(0,0,0)==5 give(0,0,8) with(0,0,0)==8 give(0,0,9) with(0,0,0)==8");
    }

    static void promise06_anUncleCharmsBy4Always(Edges e) {
        e.told("uncle warm 0; couple 0").play("with(0,0,0)==4 set(0,1,99) with(0,0,0)==4 give(0,0,9) with(0,0,0)==4 "
            + "give(0,2,0) with(0,0,0)==4");
    }

    static void promise06_aTartarCharmsTheOneWhoseLastItIs(Edges e) {
        e.told("tartar; tartar; couple 5; couple 3").play("with(0,0,0)==2 with(0,1,0)==5 give(0,2,0) with(0,0,0)==11 "
            + "with(1,0,0)==2 with(0,1,0)==5 give(0,2,1) with(0,0,0)==2 with(1,0,0)==11 give(1,2,0) with(0,1,0)==14");
    }

    static void promise06_charmsMayBeBelow0(Edges e) {
        e.told("tartar warm 9; couple 4").play("with(0,0,0)==-2 set(0,1,0) with(0,0,0)==-2 set(0,1,10) "
            + "with(0,0,0)==-1");
    }

    static void promise06_aBlesserCharmsByFireByFiveCut(Edges e) {
        e.told("blesser; couple 1; fire 0").play("with(0,0,0)==4 fire(4) with(0,0,0)==4 fire(5) with(0,0,0)==5 "
            + "fire(9) with(0,0,0)==5 fire(10) with(0,0,0)==6 fire(19) with(0,0,0)==7 fire(20) with(0,0,0)==8 "
            + "give(0,0,9) with(0,0,0)==12");
    }

    static void promise06_aMotherDoesLessFrom7On(Edges e) {
        e.told("mother; couple 6").play("with(0,0,1)==102 give(0,0,7) with(0,0,1)==101 give(0,0,9) with(0,0,1)==101");
    }

    static void promise06_aFatherAndABlesserDoMoreFromFire10On(Edges e) {
        e.told("father; blesser; couple 9; fire 9").play("with(0,0,1)==102 with(1,0,1)==104 fire(10) with(0,0,1)==103 "
            + "with(1,0,1)==105 fire(20) with(0,0,1)==103 with(1,0,1)==105");
    }

    static void promise06_aTartarDoesWellFrom60On(Edges e) {
        e.told("tartar warm 59; couple 9").play("with(0,0,1)==96 set(0,1,60) with(0,0,1)==112 set(0,1,99) "
            + "with(0,0,1)==112 set(0,1,0) with(0,0,1)==96");
    }

    static void promise06_anInlawAndAnUncleDoTheSameAlways(Edges e) {
        e.told("inlaw warm 99; uncle warm 99; couple 9; fire 20").play("with(0,0,1)==102 with(1,0,1)==100 fire(0) "
            + "give(0,0,0) set(0,1,0) set(1,1,0) with(0,0,1)==102 with(1,0,1)==100");
    }

    static void promise06_aMotherAndATartarThawByLoudByThreeCut(Edges e) {
        e.told("mother; tartar; couple 0").play("with(0,0,2)==103 with(1,0,2)==101 give(0,0,2) with(0,0,2)==103 "
            + "give(0,0,3) with(0,0,2)==102 with(1,0,2)==100 give(0,0,5) with(0,0,2)==102 give(0,0,6) "
            + "with(0,0,2)==101 with(1,0,2)==99 give(0,0,8) with(0,0,2)==101 give(0,0,9) with(0,0,2)==100 "
            + "with(1,0,2)==98");
    }

    static void promise06_theOthersThawTheSameAlways(Edges e) {
        e.told("inlaw; father; uncle; blesser; couple 0; fire 0").play("with(0,0,2)==103 with(1,0,2)==103 "
            + "with(2,0,2)==101 with(3,0,2)==106 give(0,0,9) fire(20) with(0,0,2)==103 with(1,0,2)==103 "
            + "with(2,0,2)==101 with(3,0,2)==106");
    }

    // ---- set

    static void promise07_warmIs0To99(Edges e) {
        e.some().play("set(2,1,0) of(2,1)=0 set(2,1,99)=0 of(2,1)=99 set(2,1,100)=BEYOND set(2,1,-1)=BEYOND "
            + "set(2,1,2147483647)=BEYOND set(2,1,-2147483648)=BEYOND of(2,1)=99");
    }

    static void promise07_satOnIs0Or1(Edges e) {
        e.some().play("set(2,2,1)=0 of(2,2)=1 set(2,2,2)=BEYOND set(2,2,-1)=BEYOND set(2,2,2147483647)=BEYOND "
            + "of(2,2)=1 set(2,2,0)=1 of(2,2)=0");
    }

    static void promise07_aloneIs0To9999(Edges e) {
        e.some().play("set(0,3,9999)=8 of(0,3)=9999 set(0,3,10000)=BEYOND set(0,3,-1)=BEYOND "
            + "set(0,3,2147483647)=BEYOND set(0,3,-2147483648)=BEYOND of(0,3)=9999 set(0,3,0)=9999 of(0,3)=0");
    }

    static void promise07_hadIs0To9999(Edges e) {
        e.some().play("set(1,4,9999)=7 of(1,4)=9999 set(1,4,10000)=BEYOND set(1,4,-1)=BEYOND "
            + "set(1,4,2147483647)=BEYOND set(1,4,-2147483648)=BEYOND of(1,4)=9999 set(1,4,0)=9999 of(1,4)=0");
    }

    static void promise07_beyondAnotherWhat(Edges e) {
        e.some().play("set(0,0,1)=BEYOND set(0,5,1)=BEYOND set(0,-1,1)=BEYOND set(0,2147483647,1)=BEYOND "
            + "set(0,-2147483648,1)=BEYOND");
    }

    static void promise07_beyondNoSuchOne(Edges e) {
        e.some().play("set(2,1,5) set(3,1,5)=BEYOND set(-1,1,5)=BEYOND set(2147483647,1,5)=BEYOND "
            + "set(-2147483648,1,5)=BEYOND");
        e.made().play("set(0,1,5)=BEYOND");
        e.crowd(8, 0).play("set(7,1,5)=40 set(8,1,5)=BEYOND");
    }

    static void promise07_itIsOfThatOneAlone(Edges e) {
        e.crowd(3, 0).play("set(1,1,7)=40 set(1,2,1)=0 set(1,3,5)=0 set(1,4,6)=0")
            .all("0 10 -1 2 10000 87 / 0 40 0 0 0 / 0 7 1 5 6 / 0 40 0 0 0 # 0");
    }

    // ---- turn

    static void promise08_kindsAre0To5(Edges e) {
        e.some().play("turn(0,0)=1 of(0,0)=0 turn(0,5)=0 of(0,0)=5 turn(0,5)==5 turn(0,3)=5");
    }

    static void promise08_beyondNoSuchKind(Edges e) {
        e.some().play("turn(0,6)=BEYOND turn(0,-1)=BEYOND turn(0,2147483647)=BEYOND turn(0,-2147483648)=BEYOND "
            + "of(0,0)=1");
    }

    static void promise08_beyondNoSuchOne(Edges e) {
        e.some().play("turn(2,0)=3 turn(3,0)=BEYOND turn(-1,0)=BEYOND turn(2147483647,0)=BEYOND "
            + "turn(-2147483648,0)=BEYOND");
        e.made().play("turn(0,0)=BEYOND");
        e.crowd(8, 0).play("turn(7,4)=0 turn(8,4)=BEYOND");
    }

    static void promise08_nothingElseOfItChanges(Edges e) {
        e.told("tartar warm 61 sat; couple 3 had 0").play("set(0,3,5) set(0,4,6) turn(0,2)=4")
            .all("0 10 0 1 10000 61 / 2 61 1 5 6 | 3 10000 0 # 0");
    }

    // ---- as

    static void promise09_asItsOwnKindAndThoseAbove(Edges e) {
        e.told("inlaw warm 1; mother warm 2; father warm 3; uncle warm 4; tartar warm 5; blesser warm 0")
            .play("as(0,0)==1 as(1,1)==2 as(1,0)==2 as(2,2)==3 as(2,0)==3 as(3,3)==4 as(3,0)==4")
            .play("as(4,4)==5 as(4,1)==5 as(4,0)==5 as(5,5)==0 as(5,2)==0 as(5,0)==0");
    }

    static void promise09_kindOfNoneThatIsBesideOrUnder(Edges e) {
        e.told("inlaw; mother; father; uncle; tartar; blesser")
            .play("as(0,1)=KIND as(0,2)=KIND as(0,3)=KIND as(0,4)=KIND as(0,5)=KIND")
            .play("as(1,2)=KIND as(1,3)=KIND as(1,4)=KIND as(1,5)=KIND as(2,1)=KIND as(2,3)=KIND as(2,4)=KIND "
            + "as(2,5)=KIND")
            .play("as(3,1)=KIND as(3,2)=KIND as(3,4)=KIND as(3,5)=KIND as(4,2)=KIND as(4,3)=KIND as(4,5)=KIND")
            .play("as(5,1)=KIND as(5,3)=KIND as(5,4)=KIND");
    }

    static void promise09_beyondNoSuchOne(Edges e) {
        e.some().play("as(2,0) as(3,0)=BEYOND as(-1,0)=BEYOND as(2147483647,0)=BEYOND as(-2147483648,0)=BEYOND");
        e.made().play("as(0,0)=BEYOND");
        e.crowd(8, 0).play("as(7,0)==40 as(8,0)=BEYOND");
    }

    static void promise09_beyondNoSuchKind(Edges e) {
        e.some().play("as(0,-1)=BEYOND as(0,6)=BEYOND as(0,2147483647)=BEYOND as(0,-2147483648)=BEYOND");
    }

    static void promise09_beyondIsAskedAheadOfKind(Edges e) {
        e.some().play("as(3,2)=BEYOND as(3,1)=BEYOND as(2,1)=KIND");
    }

    static void promise09_asWhatItWasTurnedTo(Edges e) {
        e.told("tartar").play("as(0,1)==40 turn(0,5)=4 as(0,1)=KIND as(0,2)==40 set(0,1,99) as(0,2)==99");
    }
}
