/** Each sentence of promises 19 to 24 that names an edge: kind, warm, sit, loud, stoke, lonely. */
public final class BestEdgeTest {
    /** An UNCLE CHARMS by 4; in-law 1 is had only if it CHARMS by more. */
    private static final String BEHIND_AN_UNCLE = "uncle; inlaw; couple 5";

    public static void main(String[] args) throws Exception {
        Edges.run(BestEdgeTest.class);
    }

    // ---- kind

    static void promise19_nIs1To60(Edges e) {
        e.some().play("kind(0,1)==0 kind(0,60)==0 kind(0,0)=BEYOND kind(0,61)=BEYOND kind(0,-1)=BEYOND "
            + "kind(0,2147483647)=BEYOND kind(0,-2147483648)=BEYOND");
    }

    static void promise19_beyondNoSuchOne(Edges e) {
        e.some().play("kind(2,1) kind(3,1)=BEYOND kind(-1,1)=BEYOND kind(2147483647,1)=BEYOND "
            + "kind(-2147483648,1)=BEYOND");
        e.told("couple 5").play("kind(0,1)=BEYOND");
        e.crowd(8, 0).play("kind(7,1)==0 kind(8,1)=BEYOND");
    }

    static void promise19_ofSeveralTheLeast(Edges e) {
        // WARM 40, LOUD 5: INLAW and MOTHER CHARM by 4, as the UNCLE; FATHER by 6, BLESSER by 8.
        e.told(BEHIND_AN_UNCLE).play("kind(1,1)==2 kind(1,60)==2 set(1,1,50) kind(1,1)==0");
    }

    static void promise19_theLastKind(Edges e) {
        // WARM 20: FATHER CHARMS by 4, BLESSER by 6.
        e.told(BEHIND_AN_UNCLE).play("set(1,1,20) kind(1,1)==5 kind(1,60)==5");
    }

    static void promise19_aTartarThatIsLast(Edges e) {
        e.told(BEHIND_AN_UNCLE).play("set(1,1,0) give(0,2,1) kind(1,1)==4 kind(1,60)==4");
    }

    static void promise19_aMotherOfTheShy(Edges e) {
        // LOUD 0, WARM 20: MOTHER CHARMS by 5, TARTAR by 3, BLESSER by 4.
        e.told("uncle; inlaw warm 20; couple 0").play("kind(1,1)==1");
    }

    static void promise19_anUncleAtWarm0(Edges e) {
        e.told("inlaw warm 39; inlaw warm 0; couple 3; fire 0").play("kind(1,1)==3");
    }

    static void promise19_theLeastWhereItIsHadAsNone(Edges e) {
        e.told("blesser sat; couple 5").play("kind(0,60)==0");
        e.told("blesser").play("kind(0,60)==0");
    }

    static void promise19_hadIsHeldTo9999(Edges e) {
        e.told(BEHIND_AN_UNCLE).play("set(1,4,9999) kind(1,60)==0 set(1,4,9998) kind(1,60)==2");
    }

    static void promise19_overAllTheSundays(Edges e) {
        // The TARTAR, LAST, CHARMS by 16 for 5 SUNDAYS, then by less: a BLESSER is had from the 6th on, a FATHER from
        // the 26th.
        e.told("tartar warm 99; inlaw warm 80; couple 9 had 0; fire 20").play("kind(1,5)==0 kind(1,6)==5 "
            + "kind(1,60)==5");
    }

    // ---- warm

    static void promise20_nIs1To60(Edges e) {
        e.some().play("warm(0,1,0)==0 warm(0,60,0)==0 warm(0,0,0)=BEYOND warm(0,61,0)=BEYOND warm(0,-1,0)=BEYOND "
            + "warm(0,2147483647,0)=BEYOND warm(0,-2147483648,0)=BEYOND");
    }

    static void promise20_vIs0To9999(Edges e) {
        e.some().play("warm(0,1,0)==0 warm(0,1,9999)=NONE warm(0,1,-1)=BEYOND warm(0,1,10000)=BEYOND "
            + "warm(0,1,2147483647)=BEYOND warm(0,1,-2147483648)=BEYOND");
    }

    static void promise20_beyondNoSuchOne(Edges e) {
        e.some().play("warm(2,1,0)==0 warm(3,1,0)=BEYOND warm(-1,1,0)=BEYOND warm(2147483647,1,0)=BEYOND "
            + "warm(-2147483648,1,0)=BEYOND");
        e.told("couple 5").play("warm(0,1,0)=BEYOND");
        e.crowd(8, 0).play("warm(7,1,0)==0 warm(8,1,0)=BEYOND");
    }

    static void promise20_theLeastThatIsEnough(Edges e) {
        // Behind the UNCLE it is had from 50 on, ahead of him from 40 on.
        e.told(BEHIND_AN_UNCLE).play("warm(1,1,1)==50 warm(1,60,60)==50 warm(1,60,61)=NONE");
        e.told("inlaw; uncle; couple 5").play("warm(0,1,1)==40 warm(0,60,60)==40");
        e.told("inlaw; couple 5").play("warm(0,1,1)==0 warm(0,60,60)==0");
    }

    static void promise20_warm99IsTheLast(Edges e) {
        // The FATHER CHARMS by 12 and stays; the TARTAR, LAST, by WARM by 10 and 7, and cools by 1 each SUNDAY it is
        // had: so it is had till WARM is 49, and never again.
        e.told("tartar; father warm 99; couple 6 had 0; fire 20").play("warm(0,50,49)==98 warm(0,50,50)==99 "
            + "warm(0,60,50)==99 warm(0,60,51)=NONE");
    }

    static void promise20_0OfTimesIs0Warm(Edges e) {
        e.told("inlaw warm 99 sat").play("warm(0,60,0)==0 warm(0,60,1)=NONE");
    }

    static void promise20_hadFromBeforeCounts(Edges e) {
        e.told(BEHIND_AN_UNCLE).play("set(1,4,9) warm(1,1,9)==0 warm(1,1,10)==50 warm(1,1,11)=NONE");
    }

    static void promise20_hadIsHeldTo9999(Edges e) {
        e.told(BEHIND_AN_UNCLE).play("set(1,4,9999) warm(1,60,9999)==0 set(1,4,9998) warm(1,60,9999)==50 "
            + "set(1,4,9938) warm(1,60,9999)=NONE set(1,4,9939) warm(1,60,9999)==50");
    }

    // ---- sit

    static void promise21_nIs1To60(Edges e) {
        e.told(BEHIND_AN_UNCLE).play("sit(1)==0 sit(60)==0 sit(0)=BEYOND sit(61)=BEYOND sit(-1)=BEYOND "
            + "sit(2147483647)=BEYOND sit(-2147483648)=BEYOND");
    }

    static void promise21_noneWhereNobodyIsThere(Edges e) {
        e.made().play("sit(1)=NONE sit(60)=NONE");
        e.told("couple 5").play("sit(1)=NONE");
    }

    static void promise21_noneWhereAllAreSatOn(Edges e) {
        e.told("inlaw sat; uncle sat; couple 5").play("sit(1)=NONE set(1,2,0) sit(1)==1");
    }

    static void promise21_beyondIsAskedAheadOfNone(Edges e) {
        e.made().play("sit(0)=BEYOND sit(61)=BEYOND sit(1)=NONE");
    }

    static void promise21_notOneThatIsSatOn(Edges e) {
        e.told("uncle sat; inlaw; couple 5").play("sit(60)==1");
    }

    static void promise21_ofSeveralTheLeast(Edges e) {
        e.told("inlaw; inlaw; inlaw").play("sit(60)==0");
        e.told("inlaw sat; inlaw; inlaw; inlaw; couple 5").play("sit(60)==1");
    }

    static void promise21_theOneThatDoesIll(Edges e) {
        e.told("inlaw; tartar warm 0; couple 5 had 1").play("sit(1)==1 sit(60)==1");
        e.crowd(7, 1).play("inlaw(4)=7 set(7,1,0) give(0,2,7) sit(1)==7 sit(60)==7");
    }

    static void promise21_thoughAllAreWorseThanNow(Edges e) {
        // With either they go home or have the TARTAR: WELL of all is below 0 both ways.
        e.told("tartar warm 0; couple 5; couple 5").play("sit(1)==0");
        e.told("tartar warm 0; tartar warm 0; couple 5").play("give(0,1,-999) sit(60)==0");
    }

    static void promise21_wellOfAllTogether(Edges e) {
        // SAT ON 0: couple 0 has the UNCLE, couple 1 goes home: -1. SAT ON 1: couple 0 has the INLAW: 2, and -1.
        e.told("inlaw; uncle; couple 5; couple 5").play("sit(1)==1");
    }

    // ---- loud

    static void promise22_nIs1To60(Edges e) {
        e.told(BEHIND_AN_UNCLE).play("loud(0,1)==0 loud(0,60)==0 loud(0,0)=BEYOND loud(0,61)=BEYOND loud(0,-1)=BEYOND "
            + "loud(0,2147483647)=BEYOND loud(0,-2147483648)=BEYOND");
    }

    static void promise22_beyondNoSuchCouple(Edges e) {
        e.some().play("loud(1,1) loud(2,1)=BEYOND loud(-1,1)=BEYOND loud(2147483647,1)=BEYOND "
            + "loud(-2147483648,1)=BEYOND");
        e.told("inlaw").play("loud(0,1)=BEYOND");
        e.crowd(0, 8).play("loud(7,1)==0 loud(8,1)=BEYOND");
    }

    static void promise22_ofSeveralTheLeast(Edges e) {
        e.told("uncle; couple 9").play("loud(0,60)==0");
        // A FATHER of WARM 40 CHARMS by more than the UNCLE from LOUD 2 on.
        e.told("uncle; father; couple 9").play("loud(0,1)==2");
    }

    static void promise22_loud9IsTheLast(Edges e) {
        // The TARTAR, LAST, CHARMS by 12 till WARM is 49: with LOUD 9, and that alone, this is so by the 2nd SUNDAY;
        // then they have the FATHER, who CHARMS by 12 from LOUD 8 on.
        e.told("tartar warm 51; father warm 80; couple 0 had 0; fire 20").play("loud(0,2)==9 loud(0,1)==0");
    }

    static void promise22_thoughItIsAtMinus999(Edges e) {
        e.told("couple 5").play("give(0,1,-999) loud(0,60)==0");
        // From LOUD 2 on they have the FATHER.
        e.told("uncle; father; couple 0").play("give(0,1,-999) loud(0,1)==2");
        // From LOUD 4 on they have the FATHER, who DOES 2, and then go home: -998; else it is -999.
        e.told("father warm 20; uncle; couple 0; couple 5; couple 5; fire 9").play("give(0,1,-999) loud(0,2)==4");
    }

    static void promise22_wellIsHeldTo999(Edges e) {
        e.told("uncle; father; couple 0").play("give(0,1,999) loud(0,1)==0 give(0,1,998) loud(0,1)==2");
    }

    // ---- stoke

    static void promise23_nIs1To60(Edges e) {
        e.told("father").play("stoke(1)==20 stoke(60)==20 stoke(0)=BEYOND stoke(61)=BEYOND stoke(-1)=BEYOND "
            + "stoke(2147483647)=BEYOND stoke(-2147483648)=BEYOND");
    }

    static void promise23_nobodyIsThere(Edges e) {
        e.made().play("stoke(1)==0 stoke(60)==0");
        e.told("couple 5; fire 20").play("stoke(60)==0");
    }

    static void promise23_ofSeveralTheLeast(Edges e) {
        e.told("inlaw; mother; uncle; tartar; fire 20").play("stoke(60)==0");
        e.told("blesser; fire 20").play("stoke(1)==10");
    }

    static void promise23_fire20IsTheLast(Edges e) {
        e.told("father; fire 0").play("stoke(1)==20 now(1)==0");
    }

    static void promise23_allAreAt0(Edges e) {
        e.told("father warm 0; blesser warm 0").play("stoke(60)==0");
    }

    static void promise23_warmOfAllTogether(Edges e) {
        // Had by FIRE 5 on, the BLESSER THAWS by 6, and the UNCLE does not CHILL; else the UNCLE THAWS by 1.
        e.told("uncle; blesser; couple 0").play("stoke(1)==5");
    }

    // ---- lonely

    static void promise24_nIs0To100(Edges e) {
        e.some().play("lonely(0)==0 lonely(100)==0 lonely(-1)=BEYOND lonely(101)=BEYOND lonely(2147483647)=BEYOND "
            + "lonely(-2147483648)=BEYOND");
    }

    static void promise24_noneWhereNobodyIsThere(Edges e) {
        e.made().play("lonely(0)=NONE lonely(100)=NONE");
        e.told("couple 5").play("lonely(0)=NONE");
    }

    static void promise24_beyondIsAskedAheadOfNone(Edges e) {
        e.made().play("lonely(-1)=BEYOND lonely(101)=BEYOND lonely(0)=NONE");
    }

    static void promise24_ofSeveralTheLeast(Edges e) {
        e.crowd(8, 0).play("lonely(0)==0 lonely(100)==0 set(3,3,1) set(5,3,1) lonely(0)==3 lonely(100)==3");
    }

    static void promise24_theLastOfEight(Edges e) {
        e.crowd(8, 0).play("set(7,3,1) lonely(0)==7 lonely(100)==7");
    }

    static void promise24_oneThatCatchesUp(Edges e) {
        // In-law 0 is had, in-law 1 alone: it is as much ALONE in 99 SUNDAYS, and more in 100.
        e.told("inlaw; inlaw; couple 5").play("set(0,3,99) lonely(0)==0 lonely(98)==0 lonely(99)==0 lonely(100)==1");
    }

    static void promise24_aloneIsHeldTo9999(Edges e) {
        e.told("inlaw; inlaw sat").play("set(0,3,9950) set(1,3,9999) lonely(0)==1 lonely(48)==1 lonely(49)==0 "
            + "lonely(100)==0");
    }

    static void promise24_thoseSatOnAreAloneToo(Edges e) {
        e.told("inlaw; inlaw sat; couple 5").play("lonely(1)==1 lonely(0)==0");
    }
}
