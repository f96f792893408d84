/** Each sentence of promises 13 to 18 that names an edge: sundays, on, then, meets, well, cold. */
public final class SundayEdgeTest {
    public static void main(String[] args) throws Exception {
        Edges.run(SundayEdgeTest.class);
    }

    // ---- sundays

    static void promise13_nIs1To60(Edges e) {
        e.told("uncle").play("sundays(1)=40 now(0)=1 of(0,3)=1 sundays(60)=40 now(0)=61 of(0,3)=61");
    }

    static void promise13_beyondBelow1(Edges e) {
        e.some().play("sundays(0)=BEYOND sundays(-1)=BEYOND sundays(-2147483648)=BEYOND now(0)=2");
    }

    static void promise13_beyondAbove60(Edges e) {
        e.some().play("sundays(61)=BEYOND sundays(2147483647)=BEYOND now(0)=2");
    }

    static void promise13_warmOfAllTogetherThen(Edges e) {
        e.told("inlaw; mother; couple 5").play("sundays(1)=79 now(5)=79");
        e.told("couple 5").play("sundays(60)=0");
    }

    static void promise13_9999IsTheLast(Edges e) {
        e.told("inlaw warm 0; couple 5").play(Edges.sixties(166) + "sundays(39)=99 now(0)=9999 of(0,4)=9999");
    }

    static void promise13_stateWhereSundayWouldBe10000(Edges e) {
        e.told("uncle; couple 5")
            .play(Edges.sixties(166) + "sundays(40)=STATE now(0)=9960 sundays(38) sundays(2)=STATE now(0)=9998")
            .play("sundays(1)=99 now(0)=9999 sundays(1)=STATE now(0)=9999");
    }

    static void promise13_stateFarAbove(Edges e) {
        e.made().play(Edges.sixties(166) + "sundays(41)=STATE sundays(60)=STATE now(0)=9960");
    }

    static void promise13_beyondIsAskedAheadOfState(Edges e) {
        e.made().play(Edges.sixties(166) + "sundays(39) sundays(0)=BEYOND sundays(61)=BEYOND")
            .play("sundays(-2147483648)=BEYOND sundays(2147483647)=BEYOND sundays(1)=STATE sundays(60)=STATE");
    }

    static void promise13_sundaysAreLikeAsManyOfOne(Edges e) {
        String text = "mother; tartar warm 70; blesser; uncle sat; couple 0; couple 8; couple 4";
        PooledInlaws one = Check.of(text);
        for (int k = 0; k < 60; k++) {
            one.sundays(1);
        }
        e.told(text).play("sundays(60)=" + one.now(5)).all(Check.all(one));
    }

    // ---- on

    static void promise14_nIs0To100(Edges e) {
        e.told("inlaw; couple 5").play("on(0,0,0)==0 on(0,1,0)==2 on(0,99,0)==198 on(0,100,0)==200");
    }

    static void promise14_beyondAnotherN(Edges e) {
        e.some().play("on(0,-1,0)=BEYOND on(0,101,0)=BEYOND on(0,2147483647,1)=BEYOND on(0,-2147483648,1)=BEYOND");
    }

    static void promise14_whatIs0Or1(Edges e) {
        e.told("inlaw; couple 5").play("on(0,0,1)==-1 on(0,1,1)==0 on(0,100,1)==0 on(0,0,-1)=BEYOND on(0,0,2)=BEYOND "
            + "on(0,100,2147483647)=BEYOND on(0,100,-2147483648)=BEYOND");
    }

    static void promise14_beyondNoSuchCouple(Edges e) {
        e.some().play("on(1,0,0) on(2,0,0)=BEYOND on(-1,0,0)=BEYOND on(2147483647,0,0)=BEYOND "
            + "on(-2147483648,0,0)=BEYOND");
        e.told("inlaw").play("on(0,0,0)=BEYOND");
        e.crowd(8, 8).play("on(7,0,0)==0 on(8,0,0)=BEYOND");
    }

    static void promise14_wellIsHeldAhead(Edges e) {
        e.told("inlaw; couple 5").play("give(0,1,800) on(0,99,0)==998 on(0,100,0)==999 sundays(1) on(0,99,0)==999 "
            + "on(0,100,0)==999");
        e.told("couple 5").play("give(0,1,-900) on(0,98,0)==-998 on(0,99,0)==-999 on(0,100,0)==-999");
    }

    static void promise14_nobodyIsThere(Edges e) {
        e.told("couple 5").play("on(0,0,0)==0 on(0,100,0)==-100 on(0,100,1)==-1");
    }

    // ---- then

    static void promise15_nIs0To100(Edges e) {
        e.told("inlaw; inlaw; couple 5").play("then(0,0,0)==40 then(0,0,1)==0 then(0,0,2)==0 then(0,1,0)==43 "
            + "then(1,1,0)==38 then(0,99,2)==99 then(0,100,2)==100 then(1,99,1)==99 then(1,100,1)==100");
    }

    static void promise15_beyondAnotherN(Edges e) {
        e.some().play("then(0,-1,0)=BEYOND then(0,101,0)=BEYOND then(0,2147483647,1)=BEYOND "
            + "then(0,-2147483648,2)=BEYOND");
    }

    static void promise15_whatIs0To2(Edges e) {
        e.some().play("then(2,0,0) then(0,0,1)==8 then(1,0,2)==7 then(0,0,-1)=BEYOND then(0,0,3)=BEYOND "
            + "then(0,100,2147483647)=BEYOND then(0,100,-2147483648)=BEYOND");
    }

    static void promise15_beyondNoSuchOne(Edges e) {
        e.some().play("then(2,0,0) then(3,0,0)=BEYOND then(-1,0,0)=BEYOND then(2147483647,0,0)=BEYOND "
            + "then(-2147483648,0,0)=BEYOND");
        e.told("couple 5").play("then(0,0,0)=BEYOND");
        e.crowd(8, 8).play("then(7,0,0)==40 then(8,0,0)=BEYOND");
    }

    static void promise15_allIsHeldAhead(Edges e) {
        e.told("inlaw; mother; couple 5").play("set(0,4,9900) set(1,3,9900) then(0,98,2)==9998 then(0,99,2)==9999 "
            + "then(0,100,2)==9999 then(1,98,1)==9998 then(1,99,1)==9999 then(1,100,1)==9999 then(0,100,0)==99 "
            + "then(1,9,0)==4 then(1,10,0)==0 then(1,11,0)==0 then(1,100,0)==0");
    }

    // ---- meets

    static void promise16_1IsThisSunday(Edges e) {
        e.told("inlaw; uncle warm 0; couple 5; couple 5").play("meets(0,0)==1 meets(1,1)==1 meets(0,1)==2 "
            + "meets(1,0)==2");
    }

    static void promise16_the100thIsTheLast(Edges e) {
        String text = "mother warm 95; tartar warm 77; uncle warm 55 sat; "
            + "couple 0; couple 2; couple 0; couple 9; fire 4";
        e.due("the first, one by one", firstMeeting(text, 3, 0), 100);
        e.told(text).play("meets(3,0)==100 sundays(1) meets(3,0)==99");
        e.due("the first of another, one by one", firstMeeting(text, 1, 0), 101);
        e.told(text).play("meets(1,0)=NONE sundays(1) meets(1,0)==100");
    }

    private static int firstMeeting(String text, int couple, int inlaw) {
        PooledInlaws x = Check.of(text);
        int n = 1;
        for (; n < 200 && x.coupleOf(couple, 3) != inlaw; n++) {
            x.sundays(1);
        }
        return n;
    }

    static void promise16_noneWhereItNeverHasIt(Edges e) {
        e.told("inlaw sat; uncle; couple 5").play("meets(0,0)=NONE meets(0,1)==1");
        e.told("inlaw; uncle; couple 5 had 1").play("meets(0,1)=NONE");
    }

    static void promise16_itMattersNotWhatItsLastIs(Edges e) {
        e.told("uncle; couple 5; couple 5 had 0").play("meets(1,0)==2 meets(0,0)==1");
    }

    static void promise16_beyondNoSuchCouple(Edges e) {
        e.some().play("meets(1,1) meets(2,1)=BEYOND meets(-1,1)=BEYOND meets(2147483647,1)=BEYOND "
            + "meets(-2147483648,1)=BEYOND");
        e.told("inlaw").play("meets(0,0)=BEYOND");
        e.crowd(8, 8).play("meets(7,7)==1 meets(8,7)=BEYOND");
    }

    static void promise16_beyondNoSuchOne(Edges e) {
        // One that goes home has -1 that SUNDAY, but -1 is no in-law.
        e.some().play("meets(0,3)=BEYOND meets(0,-1)=BEYOND meets(0,2147483647)=BEYOND meets(0,-2147483648)=BEYOND");
        e.told("couple 5").play("meets(0,0)=BEYOND meets(0,-1)=BEYOND");
        e.crowd(8, 8).play("meets(7,8)=BEYOND");
    }

    // ---- well

    static void promise17_0WhereItIsSoNow(Edges e) {
        e.told("inlaw; couple 5").play("well(0,0)==0 well(0,-1)==0 well(0,-999)==0 give(0,1,999) well(0,999)==0");
        e.told("couple 5").play("well(0,0)==0 give(0,1,-999) well(0,-999)==0 well(0,-998)=NONE");
    }

    static void promise17_justAsManyAndMore(Edges e) {
        e.told("inlaw; couple 5").play("well(0,1)==1 well(0,2)==1 well(0,3)==2");
    }

    static void promise17_100IsTheLast(Edges e) {
        e.told("inlaw; couple 5").play("well(0,198)==99 well(0,199)==100 well(0,200)==100 well(0,201)=NONE "
            + "well(0,999)=NONE");
    }

    static void promise17_vIsMinus999To999(Edges e) {
        e.some().play("well(0,-999)==0 well(0,-1000)=BEYOND well(0,1000)=BEYOND well(0,2147483647)=BEYOND "
            + "well(0,-2147483648)=BEYOND");
    }

    static void promise17_beyondNoSuchCouple(Edges e) {
        e.some().play("well(1,-999)==0 well(2,-999)=BEYOND well(-1,-999)=BEYOND well(2147483647,0)=BEYOND "
            + "well(-2147483648,0)=BEYOND");
        e.told("inlaw").play("well(0,0)=BEYOND");
        e.crowd(8, 8).play("well(7,0)==0 well(8,0)=BEYOND");
    }

    static void promise17_theFirstTimeThoughItIsLessAgain(Edges e) {
        // WELL is 2 and 1 by turns, one SUNDAY with the INLAW and one without.
        e.told("inlaw; couple 5; couple 5").play("well(0,1)==1 well(0,2)==1 well(0,3)==3 well(1,1)==2");
    }

    // ---- cold

    static void promise18_0WhereItIsSoNow(Edges e) {
        e.told("inlaw warm 0; couple 5").play("cold(0)==0");
    }

    static void promise18_justAsItGets0(Edges e) {
        e.told("inlaw warm 1; inlaw warm 2; inlaw warm 3; mother warm 99").play("cold(0)==1 cold(1)==1 cold(2)==2 "
            + "cold(3)==25");
    }

    static void promise18_99ByAFire(Edges e) {
        e.told("father warm 99; fire 10").play("cold(0)==99 sundays(1) cold(0)==98");
    }

    static void promise18_100IsTheLast(Edges e) {
        String text = "inlaw warm 49; tartar warm 71; couple 6; couple 5; couple 8; couple 5; fire 18";
        e.due("cold, one by one", firstCold(text, 1), 100);
        e.told(text).play("cold(1)==100 sundays(1) cold(1)==99");
        text = "mother warm 51; tartar warm 72; couple 4; couple 8; fire 7";
        e.due("cold a SUNDAY later, one by one", firstCold(text, 1), 101);
        e.told(text).play("cold(1)=NONE sundays(1) cold(1)==100");
    }

    private static int firstCold(String text, int inlaw) {
        PooledInlaws x = Check.of(text);
        int n = 0;
        for (; n < 200 && x.of(inlaw, 1) != 0; n++) {
            x.sundays(1);
        }
        return n;
    }

    static void promise18_noneWhereItNeverIs(Edges e) {
        e.told("uncle warm 1; father warm 1; fire 20").play("cold(0)=NONE cold(1)=NONE fire(19) cold(1)==1");
        e.told("inlaw warm 1; couple 5").play("cold(0)=NONE");
    }

    static void promise18_beyondNoSuchOne(Edges e) {
        e.some().play("cold(3)=BEYOND cold(-1)=BEYOND cold(2147483647)=BEYOND cold(-2147483648)=BEYOND");
        e.told("couple 5").play("cold(0)=BEYOND");
        e.crowd(8, 0).play("cold(7)==20 cold(8)=BEYOND");
    }
}
