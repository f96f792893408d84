/** Each sentence of promises 10 to 12 that names an edge: couple, coupleOf, give. */
public final class CoupleEdgeTest {
    public static void main(String[] args) throws Exception {
        Edges.run(CoupleEdgeTest.class);
    }

    // ---- couple

    static void promise10_loudIs0To9(Edges e) {
        e.some().play("couple(0)=2 coupleOf(2,0)=0 couple(9)=3 coupleOf(3,0)=9");
    }

    static void promise10_beyondLoudAbove9(Edges e) {
        e.some().play("couple(10)=BEYOND couple(2147483647)=BEYOND count(1)=2");
    }

    static void promise10_beyondLoudBelow0(Edges e) {
        e.some().play("couple(-1)=BEYOND couple(-2147483648)=BEYOND count(1)=2");
    }

    static void promise10_the8thIsTheLast(Edges e) {
        e.crowd(0, 7).play("couple(3)=7 coupleOf(7,0)=3 count(1)=8 couple(3)=FULL couple(0)=FULL count(1)=8");
    }

    static void promise10_beyondIsAskedAheadOfFull(Edges e) {
        e.crowd(0, 8).play("couple(10)=BEYOND couple(-1)=BEYOND couple(9)=FULL");
    }

    static void promise10_oneMoreIsAsAtFirst(Edges e) {
        e.some().play("couple(4)=2 coupleOf(2,1)=10000 coupleOf(2,2)=-1");
        e.told("inlaw").play("image() couple(1) give(0,1,9) give(0,2,0) undo()=1 couple(7)=0")
            .all("0 10 0 0 10000 40 / 0 40 0 0 0 | 7 10000 -1 # 0");
    }

    static void promise10_fullOfInlawsIsNotFullOfCouples(Edges e) {
        e.crowd(8, 0).play("couple(5)=0 inlaw(0)=FULL");
        e.crowd(0, 8).play("inlaw(0)=0 couple(5)=FULL");
    }

    // ---- coupleOf

    static void promise11_whatIs0To3(Edges e) {
        e.told("uncle; couple 9 had 0").play("give(0,1,-30) coupleOf(0,0)==9 coupleOf(0,1)==9970 coupleOf(0,2)==0 "
            + "coupleOf(0,3)==0");
    }

    static void promise11_beyondAnotherWhat(Edges e) {
        e.some().play("coupleOf(0,-1)=BEYOND coupleOf(0,4)=BEYOND coupleOf(1,2147483647)=BEYOND "
            + "coupleOf(1,-2147483648)=BEYOND");
    }

    static void promise11_beyondNoSuchCouple(Edges e) {
        e.some().play("coupleOf(1,0)==8 coupleOf(2,0)=BEYOND coupleOf(-1,0)=BEYOND coupleOf(2147483647,0)=BEYOND "
            + "coupleOf(-2147483648,3)=BEYOND");
        e.told("inlaw").play("coupleOf(0,3)=BEYOND");
        e.crowd(0, 8).play("coupleOf(7,0)==5 coupleOf(8,0)=BEYOND");
    }

    static void promise11_wellAtItsBounds(Edges e) {
        e.told("couple 5").play("give(0,1,999) coupleOf(0,1)==10999 give(0,1,-999) coupleOf(0,1)==9001");
    }

    static void promise11_lastIsMinus1AtFirst(Edges e) {
        e.told("inlaw; couple 5").play("coupleOf(0,2)==-1 sundays(1) coupleOf(0,2)==0");
    }

    static void promise11_itHasNoneWhereNobodyIsThere(Edges e) {
        e.told("couple 5").play("coupleOf(0,3)==-1");
    }

    static void promise11_itHasNoneWhereAllAreSatOn(Edges e) {
        e.told("inlaw sat; uncle sat; couple 5 had 1").play("coupleOf(0,3)==-1 set(1,2,0) coupleOf(0,3)==1");
    }

    static void promise11_itHasNoneWhereAllAreTaken(Edges e) {
        e.told("uncle; couple 5; couple 5").play("coupleOf(0,3)==0 coupleOf(1,3)==-1 sundays(1) coupleOf(0,3)==-1 "
            + "coupleOf(1,3)==0");
    }

    static void promise11_theLastOfEightHasTheLastOfEight(Edges e) {
        e.crowd(8, 8).play("coupleOf(0,3)==0 coupleOf(7,3)==7");
    }

    // ---- give

    static void promise12_loudIs0To9(Edges e) {
        e.some().play("give(1,0,0)=8 coupleOf(1,0)=0 give(1,0,9)=0 coupleOf(1,0)=9 give(1,0,10)=BEYOND "
            + "give(1,0,-1)=BEYOND give(1,0,2147483647)=BEYOND give(1,0,-2147483648)=BEYOND coupleOf(1,0)=9");
    }

    static void promise12_wellIsMinus999To999(Edges e) {
        e.some().play("give(0,1,999)=-77 coupleOf(0,1)=10999 give(0,1,1000)=BEYOND give(0,1,-1000)=BEYOND "
            + "give(0,1,2147483647)=BEYOND give(0,1,-2147483648)=BEYOND give(0,1,-999)=999 coupleOf(0,1)=9001 "
            + "give(0,1,0)=-999");
    }

    static void promise12_lastIsMinus1OrOneThatIsThere(Edges e) {
        e.told("inlaw; uncle sat; couple 5").play("give(0,2,0)=-1 give(0,2,1)=0 coupleOf(0,2)=1 give(0,2,2)=BEYOND "
            + "give(0,2,-2)=BEYOND give(0,2,2147483647)=BEYOND give(0,2,-2147483648)=BEYOND coupleOf(0,2)=1 "
            + "give(0,2,-1)=1 coupleOf(0,2)=-1");
        e.crowd(8, 1).play("give(0,2,7)=-1 give(0,2,8)=BEYOND");
    }

    static void promise12_lastIsMinus1AloneWhereNobodyIsThere(Edges e) {
        e.told("couple 5").play("give(0,2,-1)==-1 give(0,2,0)=BEYOND give(0,2,-2)=BEYOND");
    }

    static void promise12_beyondAnotherWhat(Edges e) {
        e.some().play("give(0,3,0)=BEYOND give(0,-1,0)=BEYOND give(0,2147483647,0)=BEYOND "
            + "give(0,-2147483648,0)=BEYOND");
    }

    static void promise12_beyondNoSuchCouple(Edges e) {
        e.some().play("give(1,0,1)=8 give(2,0,1)=BEYOND give(-1,0,1)=BEYOND give(2147483647,0,1)=BEYOND "
            + "give(-2147483648,0,1)=BEYOND");
        e.told("inlaw").play("give(0,0,1)=BEYOND");
        e.crowd(0, 8).play("give(7,0,1)=5 give(8,0,1)=BEYOND");
    }

    static void promise12_itIsOfThatCoupleAlone(Edges e) {
        e.crowd(1, 3).play("give(1,0,7)=5 give(1,1,-5)=0 give(1,2,0)=-1")
            .all("0 10 0 0 9995 40 / 0 40 0 0 0 | 5 10000 -1 | 7 9995 0 | 5 10000 -1 # 0");
    }
}
