/** Each sentence of the terms that names an edge; THE TEXT stands with promise 27, bounds with set and give. */
public final class TermsEdgeTest {
    public static void main(String[] args) throws Exception {
        Edges.run(TermsEdgeTest.class);
    }

    // ---- findings

    static void terms_theNumbersOfTheFindings(Edges e) {
        int[] named = {Check.BEYOND, Check.FULL, Check.KIND, Check.NONE, Check.STATE, Check.MISSING, Check.SIZE};
        for (int f = 0; f < named.length; f++) {
            e.due("finding " + f, named[f], -1000000001 - f);
        }
        e.crowd(8, 0).play("fire(21)=BEYOND inlaw(0)=FULL as(0,1)=KIND undo()=NONE lays(0)=MISSING sheet(0,8,-1)=SIZE");
        e.made().play(Edges.sixties(166) + "sundays(40)=STATE");
    }

    static void terms_inLongsToo(Edges e) {
        e.some().play("write(4,0,0)=BEYOND write(3,0,0)=MISSING write(0,3,0)=BEYOND");
    }

    static void terms_eachIsToldInTheOrderAsked(Edges e) {
        e.crowd(8, 8).play("inlaw(6)=BEYOND couple(10)=BEYOND as(8,1)=BEYOND meets(8,0)=BEYOND sit(0)=BEYOND "
            + "sheet(4,8,-1)=BEYOND sheet(0,32,-1)=BEYOND sheet(0,0,-1)=SIZE write(4,-1,0)=BEYOND "
            + "write(0,-1,0)=MISSING copy(4,-1,0,-1,-1)=BEYOND copy(0,-1,1,-1,-1)=MISSING book(4,8)=BEYOND "
            + "book(0,8)=MISSING read(0,8,8)=MISSING");
        e.made().play("sit(0)=BEYOND sit(1)=NONE lonely(101)=BEYOND lonely(100)=NONE");
    }

    // ---- what is at first

    static void terms_anInlawAtFirst(Edges e) {
        e.made().play("inlaw(2)").all("0 10 -1 0 10000 40 / 2 40 0 0 0 # 0");
    }

    static void terms_aCoupleAtFirst(Edges e) {
        e.made().play("couple(5)").all("0 10 0 0 10000 0 | 5 10000 -1 # 0");
    }

    // ---- who comes, and whom they get

    static void terms_nobodyIsThereAtAll(Edges e) {
        e.made().play("sundays(1)=0").all("1 10 -1 0 10000 0 # 0");
    }

    static void terms_noCoupleIsThereAllAreAlone(Edges e) {
        e.told("inlaw; uncle sat").play("sundays(1)=78").all("1 10 -1 2 10000 78 / 0 38 0 1 0 / 3 40 1 1 0 # 0");
    }

    static void terms_noInlawIsThereAllGoHome(Edges e) {
        e.told("couple 5; couple 0").play("sundays(1)=0").all("1 10 1 0 9998 0 | 5 9999 -1 | 0 9999 -1 # 0");
    }

    static void terms_nobodyGetsOneThatIsSatOn(Edges e) {
        e.told("inlaw warm 99 sat; uncle; couple 5").play("sundays(1)=138")
            .all("1 10 0 1 10000 138 / 0 97 1 1 0 / 3 41 0 0 1 | 5 10000 1 # 0");
    }

    static void terms_allAreSatOnAllGoHomeAndLastStays(Edges e) {
        e.told("inlaw sat; couple 5 had 0").play("sundays(1)=38").all("1 10 0 1 9999 38 / 0 38 1 1 0 | 5 9999 0 # 0");
    }

    static void terms_theLastFindsNobodyFree(Edges e) {
        e.told("inlaw; couple 5; couple 5").play("sundays(1)=43")
            .all("1 10 1 0 10001 43 / 0 43 0 0 1 | 5 10002 0 | 5 9999 -1 # 0");
    }

    static void terms_theNextSundayAnotherIsFirst(Edges e) {
        e.told("inlaw; couple 5; couple 5").play("sundays(2)=46")
            .all("2 10 0 0 10002 46 / 0 46 0 0 2 | 5 10001 0 | 5 10001 0 # 0");
    }

    static void terms_behindTheLastComes0(Edges e) {
        // On SUNDAY 2 couple 2 is first, then 0; 1 is last, and both UNCLES are taken.
        e.told("uncle; uncle; couple 5; couple 5; couple 5").play("sundays(2) coupleOf(2,3)==0 coupleOf(0,3)==1 "
            + "coupleOf(1,3)==-1");
    }

    static void terms_eightCouplesAndEightInlaws(Edges e) {
        Play p = e.crowd(8, 8).play("sundays(5)=440");
        for (int c = 0; c < 8; c++) {
            p.play("coupleOf(" + c + ",3)==" + (c + 3) % 8);
        }
        p.play("count(3)==40 now(4)==10080");
    }

    static void terms_theMostCharming(Edges e) {
        e.told("inlaw warm 39; uncle; couple 5").play("coupleOf(0,3)==1");
        e.told("uncle; inlaw warm 50; couple 5").play("coupleOf(0,3)==1");
    }

    static void terms_ofSeveralTheLeast(Edges e) {
        e.told("inlaw warm 49; uncle; couple 5").play("coupleOf(0,3)==0");
        e.told("uncle; inlaw warm 49; uncle; couple 5").play("coupleOf(0,3)==0 set(0,2,1) coupleOf(0,3)==1");
    }

    static void terms_oneThatCharmsBelow0IsHadAllTheSame(Edges e) {
        e.told("tartar warm 0; couple 5").play("with(0,0,0)==-2 coupleOf(0,3)==0 sundays(1)=0 of(0,4)=1 "
            + "coupleOf(0,1)=9996");
        e.told("tartar warm 0; tartar warm 10; couple 5").play("coupleOf(0,3)==1");
    }

    // ---- what comes of it

    static void terms_doesGoesByWarmAheadOfTheThaw(Edges e) {
        // LOUD 0: a TARTAR THAWS by 1, to 60; so it DOES -4, and 12 on the next SUNDAY.
        e.told("tartar warm 59; couple 0").play("sundays(1)=60 coupleOf(0,1)=9996 sundays(1)=61 coupleOf(0,1)=10008");
    }

    static void terms_chillsGoByTheFireAndAreOfThoseAloneOnly(Edges e) {
        e.told("father; father; couple 0; fire 10").play("sundays(1)=82")
            .all("1 10 0 0 10003 82 / 2 43 0 0 1 / 2 39 0 1 0 | 0 10003 0 # 0");
    }

    static void terms_wellIsHeldTo999(Edges e) {
        e.told("inlaw; couple 5").play("give(0,1,996) sundays(1) coupleOf(0,1)=10998 sundays(1) coupleOf(0,1)=10999 "
            + "sundays(1) coupleOf(0,1)=10999 give(0,1,997) sundays(1) coupleOf(0,1)=10999");
    }

    static void terms_wellIsHeldToMinus999(Edges e) {
        e.told("tartar warm 0; couple 5").play("give(0,1,-994) sundays(1) coupleOf(0,1)=9002 sundays(1) "
            + "coupleOf(0,1)=9001 sundays(1) coupleOf(0,1)=9001 give(0,1,-995) sundays(1) coupleOf(0,1)=9001");
    }

    static void terms_wellOfThoseThatGoHomeIsHeldToMinus999(Edges e) {
        e.told("couple 5").play("give(0,1,-997) sundays(1) coupleOf(0,1)=9002 sundays(1) coupleOf(0,1)=9001 "
            + "sundays(1) coupleOf(0,1)=9001 sundays(60) coupleOf(0,1)=9001");
    }

    static void terms_hadIsHeldTo9999(Edges e) {
        e.told("inlaw; couple 5").play("set(0,4,9998) sundays(1) of(0,4)=9999 sundays(1) of(0,4)=9999 sundays(60) "
            + "of(0,4)=9999");
    }

    static void terms_aloneIsHeldTo9999(Edges e) {
        e.told("inlaw").play("set(0,3,9998) sundays(1) of(0,3)=9999 sundays(1) of(0,3)=9999 sundays(60) of(0,3)=9999");
    }

    static void terms_thawIsHeldTo99(Edges e) {
        e.told("inlaw warm 96; couple 5").play("sundays(1)=99 sundays(1)=99 set(0,1,97) sundays(1)=99 set(0,1,95) "
            + "sundays(1)=98");
        e.told("blesser warm 93; couple 5").play("sundays(1)=99 sundays(1)=99 set(0,1,94) sundays(1)=99 set(0,1,92) "
            + "sundays(1)=98");
    }

    static void terms_thawIsHeldTo0(Edges e) {
        // LOUD 9: a TARTAR THAWS by -2.
        e.told("tartar warm 3; couple 9").play("sundays(1)=1 sundays(1)=0 sundays(1)=0 set(0,1,2) sundays(1)=0");
    }

    static void terms_chillIsHeldTo0(Edges e) {
        e.told("inlaw warm 3").play("sundays(1)=1 sundays(1)=0 sundays(1)=0 set(0,1,2) sundays(1)=0");
        e.told("mother warm 5").play("sundays(1)=1 sundays(1)=0 sundays(1)=0 set(0,1,4) sundays(1)=0 set(0,1,3) "
            + "sundays(1)=0");
    }

    static void terms_warm99WithoutAChillStays(Edges e) {
        e.told("uncle warm 99").play("sundays(60)=99");
        e.told("father warm 99; fire 20").play("sundays(60)=99");
    }

    // ---- ahead

    static void terms_aheadNothingChanges(Edges e) {
        e.told("uncle; couple 5").play("sheet(0,16,40) image() on(0,100,0)==0 on(0,100,1)==0 then(0,100,0)==99 "
            + "then(0,100,1)==0 then(0,100,2)==100 meets(0,0)==1 well(0,0)==0 kind(0,60)==0 warm(0,60,60)==0 "
            + "sit(60)==0 stoke(60)==0 lonely(100)==0 coupleOf(0,3)==0 loud(0,60)==0 cold(0)=NONE read(0,0,0)==10");
    }

    static void terms_aheadOf9999TheSundaysGoOn(Edges e) {
        // SUNDAY 9999 is couple 0's of three; AHEAD, 10000 is couple 1's.
        e.told("uncle; couple 5; couple 5; couple 5")
            .play(Edges.sixties(166) + "sundays(39) meets(0,0)==1 meets(1,0)==2 meets(2,0)==3 sundays(1)=STATE")
            .play("on(0,1,1)==0 then(0,100,2)==9999");
    }
}
