/** Boundary cases of what is done in a COURT: promises 18 to 28. */
final class DeedBounds {
    private static final int NONE = SaffronCourt.NONE;

    private DeedBounds() {
    }

    /** The night is so many below 9,999. */
    private static SaffronCourt nightsLeft(int left) {
        SaffronCourt x = Check.courtOf("bed crocus 3;bed sham 1;");
        for (int i = 0; i < 100; i++) {
            x.night(99);
        }
        x.night(99 - left);
        Check.due("night", x.told(5), 9999 - left);
        return x;
    }

    // ---- make

    static void promise18_claimsThatAreThere() {
        Boundaries.range(Scenes::full, "make", 0, 6, SaffronCourt::make);
        Boundaries.outside(Scenes::rich, "make of four", 0, 3, SaffronCourt::make);
        Boundaries.refused(SaffronCourt::new, "no claims", x -> x.make(0), 1);
    }

    static void promise18_whatIsMadeIs7() {
        Boundaries.refused(Scenes::rich, "made", x -> x.make(0), 7);
        for (int claim = 0; claim < 7; claim++) {
            int c = claim;
            Boundaries.refused(Scenes::allMade, "made " + c, x -> x.make(c), 7);
        }
    }

    static void promise18_aBarrenOneIsMadeFor0() {
        SaffronCourt x = Scenes.full();
        Check.due("make", x, x.make(3), 0, 0);
        Check.due("made", x, x.told(6), 8, 0);
        Check.due("its bed", x, x.bed(3, 0), 1, 0);
        Check.refused("made", x, x.make(3), 7);
    }

    static void promise18_asManyAsItYieldsComeUpAtItsBed() {
        SaffronCourt x = Scenes.full();
        Check.due("the most there is", x, x.make(0), 12, 0);
        Check.due("its bed", x, x.bed(0, 0), 13, 0);
        Check.due("all", x, x.told(7), 18, 0);
        Check.due("the least there is", x, x.make(5), 3, 0);
        Check.due("its bed", x, x.bed(5, 0), 4, 0);
    }

    static void promise18_9999ExactlyAreThere() {
        SaffronCourt x = Scenes.brimmingBut(12);
        Check.due("make", x, x.make(0), 12, 0);
        Check.due("crocuses", x, x.bed(0, 0), 9999, 0);
    }

    static void promise18_9999AtMostAreThere() {
        for (int fewer : new int[] {0, 1, 11}) {
            SaffronCourt x = Scenes.brimmingBut(fewer);
            Check.due("it yields all the same", x, x.make(0), 12, 0);
            Check.due("crocuses", x, x.bed(0, 0), 9999, 0);
        }
    }

    static void promise18_9998AreNotCut() {
        SaffronCourt x = Scenes.brimmingBut(13);
        Check.due("make", x, x.make(0), 12, 0);
        Check.due("crocuses", x, x.bed(0, 0), 9998, 0);
    }

    // ---- recant

    static void promise19_claimsThatAreThere() {
        Boundaries.range(Scenes::allMade, "recant", 0, 6, SaffronCourt::recant);
        Boundaries.outside(Scenes::rich, "recant of four", 0, 3, SaffronCourt::recant);
        Boundaries.refused(SaffronCourt::new, "no claims", x -> x.recant(0), 1);
    }

    static void promise19_whatIsNotMadeIs7() {
        for (int claim = 0; claim < 7; claim++) {
            int c = claim;
            Boundaries.refused(Scenes::full, "not made " + c, x -> x.recant(c), 7);
        }
    }

    static void promise19_howManyAreLeftDownTo0() {
        SaffronCourt x = Scenes.allMade();
        for (int claim = 0; claim < 7; claim++) {
            Check.due("left", x, x.recant(claim), 6 - claim, 0);
            Check.refused("twice", x, x.recant(claim), 7);
        }
        Check.due("made", x, x.told(6), 0, 0);
    }

    static void promise19_whatCameUpStays() {
        SaffronCourt x = Scenes.full();
        x.make(0);
        x.recant(0);
        Check.due("crocuses", x, x.bed(0, 0), 13, 0);
        Check.due("it yields again", x, x.make(0), 12, 0);
    }

    // ---- forget

    static void promise20_noneIs7() {
        Boundaries.refused(Scenes::full, "forget", SaffronCourt::forget, 7);
        Boundaries.refused(SaffronCourt::new, "forget of nothing", SaffronCourt::forget, 7);
    }

    static void promise20_oneUpToSevenWere() {
        SaffronCourt x = Scenes.allMade();
        Check.due("seven", x, x.forget(), 7, 0);
        Check.due("none is made", x, x.told(6), 0, 0);
        Check.due("one part", x, x.told(10), 1, 0);
        x.make(6);
        Check.due("one", x, x.forget(), 1, 0);
        Check.refused("none", x, x.forget(), 7);
    }

    // ---- walk

    static void promise21_scholarsThatAreThere() {
        Boundaries.range(Scenes::full, "scholar", 0, 3, (x, v) -> x.walk(v, 0));
        Boundaries.outside(Scenes::rich, "scholar of two", 0, 1, (x, v) -> x.walk(v, 2));
    }

    static void promise21_bedsThatAreThere() {
        Boundaries.outside(Scenes::full, "bed", 0, 5, (x, v) -> x.walk(0, v));
        Boundaries.range(Scenes::rich, "bed of three", 0, 2, (x, v) -> x.walk(0, v));
    }

    static void promise21_whereHeIsIs7() {
        Boundaries.refused(Scenes::full, "the last bed", x -> x.walk(0, 5), 7);
        Boundaries.refused(Scenes::rich, "the first bed", x -> x.walk(1, 0), 7);
    }

    static void promise21_byOneStepUpToFive() {
        SaffronCourt x = Scenes.full();
        Check.due("one down", x, x.walk(0, 4), 1, 0);
        Check.due("one up", x, x.walk(0, 5), 1, 0);
        Check.due("five down", x, x.walk(0, 0), 5, 0);
        Check.due("five up", x, x.walk(0, 5), 5, 0);
        Check.refused("none", x, x.walk(0, 5), 7);
        Check.due("there he is", x, x.scholar(0, 0), 5, 0);
    }

    // ---- pick

    static void promise22_scholarsThatAreThere() {
        Boundaries.range(Scenes::full, "scholar", 0, 3, SaffronCourt::pick);
        Boundaries.outside(Scenes::rich, "scholar of two", 0, 1, SaffronCourt::pick);
        Boundaries.refused(SaffronCourt::new, "no scholars", x -> x.pick(0), 1);
    }

    static void promise22_nothingThereIs7() {
        Boundaries.refused(() -> Check.courtOf("bed sham 5;bed crocus 9;scholar s at 0;"), "pick", x -> x.pick(0), 7);
    }

    static void promise22_oneIsPickedThenNone() {
        SaffronCourt x = Check.courtOf("bed crocus 1;scholar s at 0;");
        Check.due("one", x, x.pick(0), 1, 0);
        Check.due("gold", x, x.scholar(0, 1), 1, 0);
        Check.due("crocuses", x, x.bed(0, 0), 0, 0);
        Check.refused("none", x, x.pick(0), 7);
    }

    static void promise22_9999GoldExactly() {
        SaffronCourt x = Scenes.brimmingBut(999);
        Check.due("pick", x, x.pick(0), 9000, 0);
        Check.due("gold", x, x.scholar(0, 1), 9999, 0);
    }

    static void promise22_9998GoldIsNotCut() {
        SaffronCourt x = Scenes.brimmingBut(1000);
        Check.due("pick", x, x.pick(0), 8999, 0);
        Check.due("gold", x, x.scholar(0, 1), 9998, 0);
    }

    static void promise22_9999GoldAtMostAndAllArePicked() {
        for (int fewer : new int[] {998, 0}) {
            SaffronCourt x = Scenes.brimmingBut(fewer);
            Check.due("pick", x, x.pick(0), 9999 - fewer, 0);
            Check.due("gold", x, x.scholar(0, 1), 9999, 0);
            Check.due("none is left", x, x.bed(0, 0), 0, 0);
        }
    }

    static void promise22_onlyHisBedIsPickedForHimAlone() {
        SaffronCourt x = Scenes.small();
        x.pick(1);
        Check.due("bed 0", x, x.bed(0, 0), 0, 0);
        Check.due("its shams", x, x.bed(0, 1), 97, 0);
        Check.due("bed 2", x, x.bed(2, 0), 7, 0);
        Check.due("una", x, x.scholar(0, 1), 5, 0);
        Check.due("udo", x, x.scholar(1, 1), 40, 0);
    }

    // ---- night

    static void promise23_nightsAre1To99() {
        Boundaries.range(Scenes::rich, "nights", 1, 99, SaffronCourt::night);
    }

    static void promise23_to9999() {
        SaffronCourt x = nightsLeft(1);
        Check.due("the last", x, x.night(1), 0, 0);
        Check.due("night", x, x.told(5), 9999, 0);
        SaffronCourt y = nightsLeft(99);
        Check.due("the last 99", y, y.night(99), 0, 0);
        Check.due("night", y, y.told(5), 9999, 0);
    }

    static void promise23_above9999Is4AsAWhole() {
        Boundaries.refused(() -> nightsLeft(0), "one beyond", x -> x.night(1), 4);
        Boundaries.refused(() -> nightsLeft(1), "two beyond", x -> x.night(2), 4);
        Boundaries.refused(() -> nightsLeft(98), "99 beyond", x -> x.night(99), 4);
    }

    static void promise23_1IsAheadOf4() {
        Boundaries.refused(() -> nightsLeft(0), "none", x -> x.night(0), 1);
        Boundaries.refused(() -> nightsLeft(0), "a hundred", x -> x.night(100), 1);
    }

    static void promise23_oneWithersInEachBedInWhichThereAreCrocuses() {
        SaffronCourt x = Check.courtOf("bed crocus 2;bed crocus 1;bed;bed sham 3;");
        Check.due("one night", x, x.night(1), 1, 0);
        Check.due("a second", x, x.night(1), 0, 0);
        Check.due("a third", x, x.night(1), 0, 0);
        int[] shams = {2, 1, 0, 3};
        for (int bed = 0; bed < 4; bed++) {
            Check.due("crocuses", x, x.bed(bed, 0), 0, 0);
            Check.due("shams", x, x.bed(bed, 1), shams[bed], 0);
        }
    }

    static void promise23_manyNightsAreAsOneByOne() {
        SaffronCourt x = Check.courtOf("bed crocus 5 sham 1;bed crocus 98;bed crocus 99;bed crocus 4 sham 96;");
        Check.due("99 nights", x, x.night(99), 0, 0);
        int[] shams = {6, 98, 99, 99};
        for (int bed = 0; bed < 4; bed++) {
            Check.due("shams", x, x.bed(bed, 1), shams[bed], 0);
        }
    }

    static void promise23_99ShamsAtMostAndOneWithersAllTheSame() {
        SaffronCourt x = Check.courtOf("bed crocus 9 sham 98;");
        Check.due("to 99", x, x.night(1), 8, 0);
        Check.due("shams", x, x.bed(0, 1), 99, 0);
        Check.due("no more", x, x.night(1), 7, 0);
        Check.due("shams", x, x.bed(0, 1), 99, 0);
        SaffronCourt y = Check.courtOf("bed crocus 9 sham 98;");
        Check.due("both at once", y, y.night(2), 7, 0);
        Check.due("shams", y, y.bed(0, 1), 99, 0);
    }

    static void promise23_ofACourtOfNothing() {
        SaffronCourt x = new SaffronCourt();
        Check.due("nothing is left", x, x.night(99), 0, 0);
        Check.due("night", x, x.told(5), 99, 0);
    }

    static void promise23_claimsStayMade() {
        SaffronCourt x = Scenes.allMade();
        x.night(99);
        Check.due("made", x, x.told(6), 127, 0);
    }

    // ---- weed

    static void promise24_bedsThatAreThere() {
        Boundaries.range(() -> Check.courtOf(Check.times("bed sham 1;", 6)), "bed", 0, 5, SaffronCourt::weed);
        Boundaries.outside(Scenes::rich, "bed of three", 0, 2, SaffronCourt::weed);
        Boundaries.refused(SaffronCourt::new, "no beds", x -> x.weed(0), 1);
    }

    static void promise24_noneIs7() {
        Boundaries.refused(Scenes::full, "weed", x -> x.weed(0), 7);
    }

    static void promise24_oneUpTo99AreThrownAway() {
        SaffronCourt x = Check.courtOf("bed crocus 3 sham 1;bed sham 99;");
        Check.due("one", x, x.weed(0), 1, 0);
        Check.refused("none", x, x.weed(0), 7);
        Check.due("the other bed", x, x.bed(1, 1), 99, 0);
        Check.due("99", x, x.weed(1), 99, 0);
        Check.due("crocuses stay", x, x.bed(0, 0), 3, 0);
    }

    // ---- teach

    static void promise25_claimsAndCasesThatAreThere() {
        Boundaries.rangeDone(Scenes::full, "claim", 0, 6, (x, v) -> x.teach(v, 6, true));
        Boundaries.outside(Scenes::rich, "claim of four", 0, 3, (x, v) -> x.teach(v, 0, true) ? 1 : NONE);
        Boundaries.rangeDone(Scenes::full, "case", 0, 7, (x, v) -> x.teach(3, v, true));
        Boundaries.outside(Scenes::rich, "case of four", 0, 3, (x, v) -> x.teach(3, v, true) ? 1 : NONE);
    }

    static void promise25_whatIsSoIs7() {
        for (int which = 0; which < 8; which++) {
            int w = which;
            Boundaries.denied(Scenes::full, "not true", x -> x.teach(3, w, false), 7);
            Boundaries.denied(Scenes::full, "true", x -> x.teach(4, w, true), 7);
        }
    }

    static void promise25_trueOfOneMoreOrOneLess() {
        SaffronCourt x = Scenes.full();
        Check.done("the last", x, x.teach(3, 7, true));
        Check.due("of", x, x.claim(3, 2), 128, 0);
        Check.denied("twice", x, x.teach(3, 7, true), 7);
        Check.done("back", x, x.teach(3, 7, false));
        Check.due("of none", x, x.claim(3, 2), 0, 0);
        Check.done("the first of all", x, x.teach(4, 0, false));
        Check.due("of", x, x.claim(4, 2), 254, 0);
    }

    static void promise25_aClaimThatIsMadePartsAnew() {
        SaffronCourt x = Scenes.full();
        x.make(3);
        Check.due("one part", x, x.told(10), 1, 0);
        x.teach(3, 7, true);
        Check.due("two parts", x, x.told(10), 2, 0);
        Check.due("it is made", x, x.told(6), 8, 0);
    }

    // ---- weigh

    static void promise26_casesThatAreThere() {
        Boundaries.range(Scenes::full, "case", 0, 7, (x, v) -> x.weigh(v, 5));
        Boundaries.outside(Scenes::rich, "case of four", 0, 3, (x, v) -> x.weigh(v, 5));
    }

    static void promise26_weightsAre1To20() {
        Boundaries.range(Scenes::rich, "weight", 1, 20, (x, v) -> x.weigh(0, v));
    }

    static void promise26_whatItWas() {
        SaffronCourt x = Scenes.small();
        Check.due("was 4", x, x.weigh(3, 20), 4, 0);
        Check.due("was 20", x, x.weigh(3, 20), 20, 0);
        Check.due("was 20", x, x.weigh(3, 1), 20, 0);
        Check.due("is 1", x, x.weight(3), 1, 0);
        Check.due("the others stay", x, x.weight(2), 3, 0);
    }

    // ---- think

    static void promise27_aSeventhIsTakenAnEighthIs4() {
        SaffronCourt x = Scenes.small();
        for (int claim = 4; claim < 7; claim++) {
            Check.due("its number", x, x.think(claim, 0, 1), claim, 0);
            Check.due("how many", x, x.told(2), claim + 1, 0);
        }
        Check.refused("an eighth", x, x.think(1, 0, 1), 4);
        Boundaries.refused(Scenes::full, "an eighth", y -> y.think(1, 0, 1), 4);
    }

    static void promise27_1IsAheadOf4() {
        Boundaries.refused(Scenes::full, "set", x -> x.think(256, 0, 1), 1);
        Boundaries.refused(Scenes::full, "bed", x -> x.think(1, 6, 1), 1);
        Boundaries.refused(Scenes::full, "cost", x -> x.think(1, 0, 10), 1);
    }

    static void promise27_setsOfCasesThatAreThere() {
        Boundaries.range(Scenes::rich, "set", 0, 15, (x, v) -> x.think(v, 0, 1));
        SaffronCourt x = Check.courtOf("bed;" + Check.times("case # weight 1;", 8));
        Check.due("of all eight", x, x.think(255, 0, 1), 0, 0);
        Check.due("its set", x, x.claim(0, 2), 255, 0);
        Check.refused("a ninth", x, x.think(256, 0, 1), 1);
        Boundaries.refused(Scenes::rich, "one that is not there beside another", y -> y.think(17, 0, 1), 1);
    }

    static void promise27_withoutCasesTheEmptySetAlone() {
        SaffronCourt x = Check.courtOf("bed;");
        Check.due("the empty set", x, x.think(0, 0, 1), 0, 0);
        Check.refused("a case", x, x.think(1, 0, 1), 1);
    }

    static void promise27_bedsThatAreThere() {
        Boundaries.range(Scenes::rich, "bed", 0, 2, (x, v) -> x.think(1, v, 1));
        Boundaries.refused(SaffronCourt::new, "no beds", x -> x.think(0, 0, 1), 1);
    }

    static void promise27_costsAre1To9() {
        Boundaries.range(Scenes::rich, "cost", 1, 9, (x, v) -> x.think(1, 0, v));
    }

    static void promise27_itIsAsItWasThoughtAndNotMade() {
        SaffronCourt x = Scenes.small();
        x.make(0);
        Check.due("its number", x, x.think(9, 2, 9), 4, 0);
        Check.due("bed", x, x.claim(4, 0), 2, 0);
        Check.due("cost", x, x.claim(4, 1), 9, 0);
        Check.due("set", x, x.claim(4, 2), 9, 0);
        Check.due("made", x, x.told(6), 1, 0);
        Check.due("make", x, x.make(4), 6, 0);
    }

    static void promise27_theSeventhCanBeMadeAndRecanted() {
        SaffronCourt x = Scenes.small();
        x.think(1, 0, 1);
        x.think(2, 0, 1);
        x.think(4, 0, 1);
        Check.due("make", x, x.make(6), 3, 0);
        Check.due("made", x, x.told(6), 64, 0);
        Check.due("recant", x, x.recant(6), 0, 0);
    }

    // ---- rule

    static void promise28_oddsAre0To16() {
        Boundaries.rangeDone(Scenes::rich, "odds", 0, 16, SaffronCourt::rule);
    }

    static void promise28_theyAreThoseFromNowOn() {
        SaffronCourt x = Scenes.small();
        for (int odds : new int[] {0, 16, 16}) {
            Check.done("rule", x, x.rule(odds));
            Check.due("odds", x, x.told(4), odds, 0);
        }
    }
}
