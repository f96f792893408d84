/** Each sentence of promises 25 to 27, and of the terms on THE TEXT, that names an edge: feed, wipe, institute. */
public final class TextEdgeTest {
    private static final String BLANKS = " ".repeat(120);

    public static void main(String[] args) throws Exception {
        Edges.run(TextEdgeTest.class);
    }

    // ---- feed

    static void promise25_nIs1To4(Edges e) {
        e.made().play("feed(0,1)=1 feed(0,4)=5 feed(0,3)=8 feed(0,2)=10 count(2)=10");
    }

    static void promise25_beyondAnotherN(Edges e) {
        e.some().play("feed(32,0)=BEYOND feed(32,5)=BEYOND feed(32,-1)=BEYOND feed(32,2147483647)=BEYOND "
            + "feed(32,-2147483648)=BEYOND count(2)=6");
    }

    static void promise25_120IsTheMost(Edges e) {
        Play p = e.made().feed(BLANKS.substring(2)).play("count(2)=118 feed(32,1)=119 feed(32,1)=120 count(2)=120");
        p.play("feed(32,1)=FULL count(2)=120");
        e.made().feed(BLANKS.substring(4)).play("feed(0,4)=120");
    }

    static void promise25_fullWhereNotAllFind(Edges e) {
        // None of the bytes comes: what stood there is still a TEXT.
        e.made().feed("fire 7" + BLANKS.substring(9)).play("count(2)=117 feed(-1,4)=FULL count(2)=117 "
            + "feed(538976288,3)=120 feed(0,4)=FULL feed(0,3)=FULL feed(0,2)=FULL feed(0,1)=FULL institute()=1 "
            + "now(1)=7");
        e.made().feed(BLANKS.substring(1)).play("feed(-1,2)=FULL feed(-1,3)=FULL feed(-1,4)=FULL count(2)=119 "
            + "feed(0,1)=120");
    }

    static void promise25_beyondIsAskedAheadOfFull(Edges e) {
        e.made().feed(BLANKS).play("feed(0,0)=BEYOND feed(0,5)=BEYOND feed(0,1)=FULL");
    }

    static void promise25_theLowestBytesTheHighestOfTheseFirst(Edges e) {
        // "fi" of "??fi", "re " of "?re ", "1" of "???1", "9" of "???9".
        e.made().play("feed(1061119593,2)=2 feed(1064461600,3)=5 feed(1061109553,1)=6 feed(1061109561,1)=7 "
            + "institute()=1 now(1)=19");
    }

    static void promise25_aNumberBelow0IsItsBytes(Edges e) {
        // -1 is four bytes of 255; the lowest of -197 is the SIGN.
        e.made().play("feed(-1,4)=4 institute()=-1");
        e.told("fire 3").feed("fire 4").play("feed(-197,1)=7").feed("fire 5").play("institute()=2 now(1)=5");
    }

    // ---- wipe

    static void promise26_theEmptyTape(Edges e) {
        e.made().play("wipe()==0 wipe()==0 count(2)==0");
    }

    static void promise26_theFullTape(Edges e) {
        e.made().feed(BLANKS).play("wipe()=120 count(2)=0 wipe()==0 feed(0,4)=4");
    }

    static void promise26_nothingElseChanges(Edges e) {
        e.some().play("wipe()=6 undo()=3 lays(3)=MISSING count(2)=0");
        e.told("inlaw; couple 5").feed("fire 7").play("wipe()=6")
            .all("0 10 0 0 10000 40 / 0 40 0 0 0 | 5 10000 -1 # 0");
    }

    static void promise26_whatWasThereIsGone(Edges e) {
        e.made().feed("inlaws 999 ;").play("wipe()=12").text("inlaw", 1).feed("fire 999").play("wipe()=8")
            .text("fire 9", 1);
    }

    // ---- institute: how it ends

    static void promise27_theEmptyTapeEndsTooEarly(Edges e) {
        e.made().fault("", 0);
        e.some().play("wipe()=6").fault("", 0);
    }

    static void promise27_blanksAloneEndTooEarly(Edges e) {
        e.made().fault(" ", 1).fault(BLANKS, 120);
    }

    static void promise27_theTapeIsEmptyBehindIt(Edges e) {
        e.made().feed("fire 7").play("institute()=1 count(2)=0 institute()=-1");
    }

    static void promise27_theTapeIsEmptyBehindAFaultToo(Edges e) {
        e.made().feed("fire 21").play("institute()=-6 count(2)=0 now(1)=10 institute()=-1");
    }

    static void promise27_aFaultIsNoFinding(Edges e) {
        e.made().fault("fire 21", 5).play("status(-1)=0");
    }

    static void promise27_nothingOfATextWithAFaultComes(Edges e) {
        e.some().play("wipe()=6")
            .fault("fire 20; uncle warm 99 sat; couple 9 had 3; sit 2; inlaw warm 5 sat; fire 21", 74)
            .play("count(0)=3 count(1)=2 now(1)=3");
    }

    static void promise27_itComesToWhatThereIs(Edges e) {
        e.told("uncle").play("sundays(2)=40").text("couple 2 had 0; sit 0; fire 1", 3)
            .all("2 1 0 1 10000 40 / 3 40 1 2 0 | 2 10000 0 # 0");
    }

    static void promise27_howManyItems(Edges e) {
        e.made().text("fire 1", 1).text("fire 1;fire 2", 2).text("fire1" + ";fire2".repeat(19), 20).play("now(1)=2");
    }

    static void promise27_anImageIsNotTouched(Edges e) {
        e.told("uncle").play("image()=1").text("inlaw; fire 1", 2).play("undo()=1 now(1)=10");
    }

    // ---- institute: tokens

    static void promise27_aWordIsAsLongAsCanBe(Edges e) {
        e.made().fault("inlaws", 0).fault("inlawsat", 0).fault("inlaw warmsat", 6).fault("inla", 0).fault("i", 0)
            .fault("coupl", 0).fault("fires 5", 0).fault("si 0", 0).text("mother sat", 1);
    }

    static void promise27_aNumberIsAsLongAsCanBe(Edges e) {
        e.made().fault("fire 100", 5).fault("fire 210", 5).fault("fire 2 0", 7).text("fire 020", 1).play("now(1)=20");
    }

    static void promise27_aNumberIs999AtMost(Edges e) {
        e.made().fault("inlaw warm 999", 11).fault("inlaw warm 1000", 11).fault("inlaw warm 4294967301", 11)
            .fault("inlaw warm 18446744073709551621", 11).fault("fire" + "9".repeat(116), 4)
            .text("fire" + "0".repeat(115) + "7", 1).play("now(1)=7");
    }

    static void promise27_blanksMayStandBetween(Edges e) {
        e.made().text("inlaw   warm   5   sat   ;   couple   3   had   0   ;   fire   2", 3)
            .all("0 2 0 1 10000 5 / 0 5 1 0 0 | 3 10000 0 # 0");
        e.made().text("   fire 2   ", 1);
    }

    static void promise27_blanksAreNotNeededWhereATokenEnds(Edges e) {
        e.made().text("inlaw warm5sat;couple3had0;fire2;sit0", 4).all("0 2 0 1 10000 5 / 0 5 1 0 0 | 3 10000 0 # 0");
    }

    static void promise27_lettersAreAToZ(Edges e) {
        e.made().fault("Inlaw", 0).fault("inlaW", 0).fault("inlaw W", 6).fault("inlaw`", 5).fault("inlaw{", 5)
            .fault("inlaw@", 5).fault("a", 0).fault("z", 0).fault("zz;", 0).fault("inlawz", 0).fault("inlawa", 0)
            .fault("firea 5", 0).fault("firez 5", 0);
    }

    static void promise27_digitsAre0To9(Edges e) {
        e.made().fault("fire 1/", 6).fault("fire 1:", 6).fault("fire -1", 5).fault("fire +1", 5).text("fire 0", 1)
            .text("fire 9", 1);
    }

    static void promise27_aByteThatBeginsNoToken(Edges e) {
        e.made().fault("\0", 0).fault("fire\t5", 4).fault("fire\n5", 4).fault("fire 5\r", 6).fault("fire,5", 4)
            .fault("fire 5.", 6).fault("\u0080", 0).fault("fire \u00b5", 5).fault("fire 5\u00ff", 6)
            .fault("fire\u00a05", 4).fault("inlaw;?", 6).fault("inlaw warm?", 10).fault("couple?", 6)
            .fault("\u001f", 0).fault("!", 0);
    }

    static void promise27_theSignStandsBetweenItemsAlone(Edges e) {
        e.made().fault(";", 0).fault(";fire 5", 0).fault("fire 5;;fire 5", 7).fault("fire;5", 4)
            .fault("inlaw warm;5", 10).fault("couple;", 6).fault("fire 5 fire 6", 7).fault("inlaw couple 5", 6)
            .fault("couple 5 fire 5", 9).fault("fire 5:fire 6", 6);
    }

    // ---- institute: a text that ends too early

    static void promise27_itEndsTooEarlyBehindTheSign(Edges e) {
        e.made().fault("fire 5;", 7).fault("fire 5; ", 8).fault("fire 5;   ", 10);
    }

    static void promise27_itEndsTooEarlyWhereANumberIsDue(Edges e) {
        e.told("inlaw").fault("uncle warm", 10).fault("uncle warm ", 11).fault("couple", 6).fault("couple  ", 8)
            .fault("couple 5 had", 12).fault("couple 5 had ", 13).fault("fire", 4).fault("fire ", 5).fault("sit", 3)
            .fault("sit  ", 5);
    }

    static void promise27_itMayEndWhereMoreMightStand(Edges e) {
        e.made().text("inlaw", 1).text("inlaw warm 5", 1).text("inlaw sat", 1).text("inlaw warm 5 sat", 1)
            .text("couple 5", 1).text("couple 5 had 3", 1).play("count(0)=4 count(1)=2");
    }

    static void promise27_120BytesToTheLast(Edges e) {
        e.made().text(BLANKS.substring(5) + "uncle", 1).text("uncle" + BLANKS.substring(5), 1)
            .text(BLANKS.substring(6) + "fire17", 1)
            .play("now(1)=17").fault(BLANKS.substring(6) + "uncle;", 120).fault(BLANKS.substring(4) + "fire", 120)
            .fault(BLANKS.substring(6) + "uncle?", 119).fault("a".repeat(120), 0).fault(BLANKS.substring(1) + "a", 119);
    }

    // ---- institute: in-laws

    static void promise27_theNameOfEachKind(Edges e) {
        e.made().text("inlaw", 1).text("mother", 1).text("father", 1).text("uncle", 1).text("tartar", 1)
            .text("blesser", 1)
            .play("of(0,0)=0 of(1,0)=1 of(2,0)=2 of(3,0)=3 of(4,0)=4 of(5,0)=5");
    }

    static void promise27_anInlawIsAsAtFirstWithoutMore(Edges e) {
        e.made().text("tartar", 1).all("0 10 -1 0 10000 40 / 4 40 0 0 0 # 0");
    }

    static void promise27_warmIs0To99(Edges e) {
        e.made().text("inlaw warm 0; inlaw warm 99", 2).play("of(0,1)=0 of(1,1)=99").fault("inlaw warm 100", 11)
            .fault("inlaw warm -1", 11);
    }

    static void promise27_warmTakesANumber(Edges e) {
        e.made().fault("inlaw warm sat", 11).fault("inlaw warm warm 5", 11).fault("inlaw warm ; fire 5", 11);
    }

    static void promise27_satStandsBehindWarmAndOnce(Edges e) {
        e.made().fault("inlaw sat warm 5", 10).fault("inlaw sat sat", 10).fault("inlaw warm 5 warm 6", 13)
            .fault("inlaw sat 1", 10).fault("inlaw 40", 6).fault("inlaw had 0", 6);
    }

    static void promise27_the8thInlaw(Edges e) {
        e.crowd(7, 0).text("uncle warm 9 sat", 1).play("count(0)=8 of(7,0)=3 of(7,1)=9 of(7,2)=1");
    }

    static void promise27_the9thInlawFaultsAtItsName(Edges e) {
        e.crowd(8, 0).fault("uncle", 0).fault("  uncle warm 500", 2).fault("fire 5; blesser ?", 8).play("count(0)=8");
        e.crowd(7, 0).fault("uncle; uncle; uncle", 7).play("count(0)=7");
        e.made().text("inlaw;inlaw;inlaw;inlaw;inlaw;inlaw;inlaw;inlaw", 8).play("undo()=NONE");
        e.made().fault("inlaw;inlaw;inlaw;inlaw;inlaw;inlaw;inlaw;inlaw;inlaw", 48).play("count(0)=0");
    }

    static void promise27_aFaultAheadOfThe9thIsTheFirst(Edges e) {
        e.crowd(8, 0).fault("fire 21; uncle", 5);
    }

    // ---- institute: couples

    static void promise27_loudIs0To9(Edges e) {
        e.made().text("couple 0; couple 9", 2).play("coupleOf(0,0)=0 coupleOf(1,0)=9 coupleOf(1,1)=10000 "
            + "coupleOf(1,2)=-1").fault("couple 10", 7).fault("couple -1", 7);
    }

    static void promise27_coupleTakesANumber(Edges e) {
        e.made().fault("couple had 0", 7).fault("couple; fire 5", 6).fault("couple couple 5", 7)
            .fault("couple 5 6", 9).fault("couple 5 sat", 9).fault("couple 5 warm 5", 9);
    }

    static void promise27_hadIsOneThatIsThereByThen(Edges e) {
        e.crowd(2, 0).text("couple 5 had 0; couple 5 had 1", 2).play("coupleOf(0,2)=0 coupleOf(1,2)=1")
            .fault("couple 5 had 2", 13).fault("couple 5 had 2; uncle", 13).text("uncle; couple 5 had 2", 2)
            .play("coupleOf(2,2)=2");
        e.crowd(8, 0).text("couple 5 had 7", 1).fault("couple 5 had 8", 13).fault("couple 5 had 1000", 13);
    }

    static void promise27_hadWhereNobodyIsThere(Edges e) {
        e.made().fault("couple 5 had 0", 13).fault("couple 5 had 0; inlaw", 13);
    }

    static void promise27_hadTakesANumberAndStandsOnce(Edges e) {
        e.told("inlaw").fault("couple 5 had x", 13).fault("couple 5 had; fire 5", 12)
            .fault("couple 5 had 0 had 0", 15).fault("couple 5 had 0 0", 15);
    }

    static void promise27_the8thCouple(Edges e) {
        e.crowd(1, 7).text("couple 3 had 0", 1).play("count(1)=8 coupleOf(7,0)=3 coupleOf(7,2)=0");
    }

    static void promise27_the9thCoupleFaultsAtItsWord(Edges e) {
        e.crowd(0, 8).fault("couple 5", 0).fault("  couple", 2).fault("fire 5; couple 10", 8).play("count(1)=8");
        e.crowd(0, 7).fault("couple 5; couple 5", 10).play("count(1)=7");
    }

    static void promise27_fullOfOneIsNotFullOfTheOther(Edges e) {
        e.crowd(8, 0).text("couple 5", 1);
        e.crowd(0, 8).text("uncle", 1);
        e.crowd(8, 8).text("fire 5; sit 7", 2);
    }

    // ---- institute: fire and sit

    static void promise27_fireIs0To20(Edges e) {
        e.made().text("fire 0", 1).play("now(1)=0").text("fire 20", 1).play("now(1)=20").fault("fire 21", 5)
            .fault("fire 999", 5).fault("fire x", 5).fault("fire fire 5", 5);
    }

    static void promise27_sitIsOneThatIsThereByThen(Edges e) {
        e.crowd(2, 0).text("sit 1", 1).play("now(3)=2").fault("sit 2", 4).fault("sit 2; uncle", 4)
            .text("uncle; sit 2", 2)
            .play("now(3)=6").fault("sit x", 4).fault("sit 0 0", 6);
        e.crowd(8, 0).text("sit 7", 1).play("now(3)=128").fault("sit 8", 4);
    }

    static void promise27_sitWhereNobodyIsThere(Edges e) {
        e.made().fault("sit 0", 4).fault("sit 0; inlaw", 4);
    }

    static void promise27_sitOnOneThatIsSatOn(Edges e) {
        e.told("inlaw sat").text("sit 0;sit 0", 2).play("now(3)=1");
    }

    static void promise27_anotherWord(Edges e) {
        e.made().fault("aunt", 0).fault("warm 5", 0).fault("sat", 0).fault("had 0", 0).fault("fire 5; aunt", 8)
            .fault("xire 5", 0).fault("firx 5", 0).fault("inlaw xarm 5", 6).fault("inlaw cold 5", 6)
            .fault("inlaw warm 5 sad", 13).fault("5", 0);
    }
}
