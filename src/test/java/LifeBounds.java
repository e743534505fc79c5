/** Boundary cases of how TERMS are LIVED: promises 52 to 54. */
final class LifeBounds {
    private static final int NONE = SaffronCourt.NONE;
    private static final String COURT = "bed crocus 3;bed crocus 2;bed;case a weight 1;case b weight 1;"
        + "claim k at 0 of a;claim l at 1 of b;scholar s at 0 gold 5;scholar t at 2;";
    // Each scholar has a bed with one crocus; what any does is seen by who has gold, or by what is made.
    private static final String DRAWN = Check.times("bed crocus 1;", 4) + "bed;" + Check.times("claim k# at 4 of;", 7)
        + "scholar sa at 0;scholar sb at 1;scholar sc at 2;scholar sd at 3;";
    private static final String HUNDRED = "loop 99;forget;end;";

    private LifeBounds() {
    }

    /** What live() answers, and all that lived() tells then. */
    private static void lives(SaffronCourt x, String what, int seed, int steps, int... lived) {
        Check.due(what + " steps", x, x.live(seed), steps, 0);
        for (int i = 0; i < lived.length; i++) {
            Check.due(what + " lived " + i, x, x.lived(i), lived[i], 0);
        }
    }

    private static SaffronCourt lived(String terms, int steps, int... lived) {
        SaffronCourt x = Scenes.withTerms(COURT, terms);
        lives(x, terms, 0, steps, lived);
        return x;
    }

    // ---- live

    static void promise52_seedsAre0To9999() {
        Boundaries.range(Scenes::rich, "seed", 0, 9999, SaffronCourt::live);
    }

    static void promise52_noTermsIs6And1IsAheadOfIt() {
        Boundaries.refused(Scenes::small, "no terms", x -> x.live(0), 6);
        Boundaries.refused(Scenes::small, "seed -1", x -> x.live(-1), 1);
        Boundaries.refused(Scenes::small, "seed 10000", x -> x.live(10000), 1);
    }

    static void promise52_termsOfNoStepAreLivedBy0() {
        lived("", 0, 0, 0, 0, 0, 0);
    }

    static void promise52_allIsAsItIsThen() {
        SaffronCourt x = lived("make k;walk t 1;pick t;night 1;", 4, 0, 3, 2, 1, 0);
        Check.due("made", x, x.told(6), 1, 0);
        Check.due("there he is", x, x.scholar(1, 0), 1, 0);
        Check.due("gold", x, x.scholar(1, 1), 2, 0);
        Check.due("night", x, x.told(5), 1, 0);
        Check.due("crocuses", x, x.told(7), 5, 0);
        Check.due("shams", x, x.told(8), 1, 0);
    }

    static void promise52_termsMayBeLivedAgain() {
        SaffronCourt x = lived("make k;pick s;", 2, 0, 3, 6, 0, 0);
        lives(x, "again", 0, 2, 2, 0, 0, 0, 0);
    }

    static void promise52_aMakeOfWhatIsMadeIsMissed() {
        SaffronCourt x = lived("make k;make k;", 2, 1, 3, 0, 0, 0);
        Check.due("crocuses", x, x.bed(0, 0), 6, 0);
    }

    static void promise52_aMakeThatYieldsNothingIsNotMissed() {
        SaffronCourt x = lived("make k;make l;", 2, 0, 3, 0, 0, 0);
        Check.due("made", x, x.told(6), 3, 0);
    }

    static void promise52_aWalkToWhereHeIsIsMissed() {
        SaffronCourt x = lived("walk s 0;walk s 2;walk s 2;", 3, 2, 0, 0, 0, 0);
        Check.due("there he is", x, x.scholar(0, 0), 2, 0);
    }

    static void promise52_aPickOfNothingIsMissed() {
        lived("pick t;pick s;pick s;", 3, 2, 0, 3, 0, 0);
    }

    static void promise52_aForgetIfNoneIsMadeIsMissed() {
        SaffronCourt x = lived("forget;make k;make l;forget;forget;", 5, 2, 3, 0, 0, 0);
        Check.due("made", x, x.told(6), 0, 0);
    }

    static void promise52_nightsTo9999AreDoneBeyondThemMissedAsAWhole() {
        SaffronCourt x = Scenes.withTerms(COURT, "night 40;night 39;night 1;");
        for (int i = 0; i < 100; i++) {
            x.night(99);
        }
        x.night(60);
        lives(x, "from 9,960", 0, 3, 2, 0, 0, 39, 0);
        Check.due("night", x, x.told(5), 9999, 0);
    }

    static void promise52_fortyNightsAtOnce() {
        SaffronCourt x = lived("night 40;night 1;", 2, 0, 0, 0, 41, 0);
        Check.due("night", x, x.told(5), 41, 0);
        Check.due("shams", x, x.told(8), 5, 0);
    }

    static void promise52_anyWithoutClaimsIsMissed() {
        SaffronCourt x = Scenes.withTerms("odds 0;bed crocus 1;scholar s at 0;", "any;");
        lives(x, "any", 0, 1, 1, 0, 0, 0, 0);
        Check.due("gold", x, x.told(9), 0, 0);
    }

    static void promise52_anyWithoutScholarsIsMissed() {
        SaffronCourt x = Scenes.withTerms("odds 16;bed;claim k at 0 of;", "any;");
        lives(x, "any", 0, 1, 1, 0, 0, 0, 0);
        Check.due("made", x, x.told(6), 0, 0);
    }

    static void promise52_anyWithoutAnythingIsMissed() {
        SaffronCourt x = new SaffronCourt();
        Check.terms(x, "any;any;");
        lives(x, "any", 9999, 2, 2, 0, 0, 0, 0);
    }

    static void promise52_anyOfWhatIsMadeIsMissed() {
        SaffronCourt x = Scenes.withTerms("odds 16;bed crocus 5;claim k at 0 of;scholar s at 0;", "any;any;");
        lives(x, "any", 0, 2, 1, 0, 0, 0, 0);
        Check.due("he does not pick", x, x.told(9), 0, 0);
    }

    static void promise52_anyPickOfNothingIsMissed() {
        SaffronCourt x = Scenes.withTerms("odds 0;bed crocus 5;claim k at 0 of;scholar s at 0;", "any;any;");
        lives(x, "any", 0, 2, 1, 0, 5, 0, 0);
        Check.due("nothing is made", x, x.told(6), 0, 0);
    }

    /** By a seed and ODDS, any makes this set of claims, or lets this scholar pick. */
    private static void draws(int seed, int odds, int made, int scholar) {
        SaffronCourt x = Scenes.withTerms(DRAWN, "any;");
        x.rule(odds);
        lives(x, "seed " + seed + " odds " + odds, seed, 1, 0, 0, made == 0 ? 1 : 0, 0, 0);
        Check.due("made by " + seed, x, x.told(6), made, 0);
        for (int i = 0; i < 4; i++) {
            Check.due("gold by " + seed, x, x.scholar(i, 1), i == scholar ? 1 : 0, 0);
        }
    }

    static void promise52_aDrawBelowOddsMakesElseHePicks() {
        draws(0, 2, 8, NONE);
        draws(0, 1, 0, 0);
        draws(9999, 3, 8, NONE);
        draws(9999, 2, 0, 1);
        draws(56, 5, 64, NONE);
        draws(56, 4, 0, 3);
    }

    static void promise52_odds0NeverMakeOdds16Always() {
        draws(24, 1, 1, NONE);
        draws(24, 0, 0, 3);
        draws(9, 15, 0, 2);
        draws(9, 16, 8, NONE);
    }

    static void promise52_eachAnyTakesAllThreeDraws() {
        SaffronCourt x = Scenes.withTerms(DRAWN, "any;any;any;");
        x.rule(16);
        lives(x, "claims 3, 6, 3", 0, 3, 1, 0, 0, 0, 0);
        Check.due("made", x, x.told(6), 8 + 64, 0);
        SaffronCourt y = Scenes.withTerms(DRAWN, "any;any;any;");
        y.rule(0);
        lives(y, "scholars 1, 1, 0", 9999, 3, 1, 0, 2, 0, 0);
        Check.due("gold of sa", y, y.scholar(0, 1), 1, 0);
        Check.due("gold of sb", y, y.scholar(1, 1), 1, 0);
    }

    static void promise52_drawsBeginAnewWithEachSeed() {
        SaffronCourt x = Scenes.withTerms(DRAWN, "any;");
        x.rule(16);
        lives(x, "once", 0, 1, 0, 0, 0, 0, 0);
        lives(x, "the same draw", 0, 1, 1, 0, 0, 0, 0);
    }

    static void promise52_anyDrawsAlsoWhatWasThought() {
        SaffronCourt x = Scenes.withTerms("odds 16;bed;scholar s at 0;claim k at 0 of;", "any;");
        x.think(0, 0, 1);
        lives(x, "claim 1 of two", 0, 1, 0, 0, 0, 0, 0);
        Check.due("1,431 by 2", x, x.told(6), 2, 0);
    }

    /** Whether a TEST holds: what is within is MISSED once then. */
    private static void holds(SaffronCourt x, String test, boolean is) {
        Check.terms(x, "when " + test + ";forget;end;");
        lives(x, test, 0, is ? 2 : 1, is ? 1 : 0, 0, 0, 0, 0);
    }

    private static void comparesAround(String what, int many) {
        SaffronCourt x = Check.courtOf(COURT);
        for (int other = many - 1; other <= many + 1; other++) {
            holds(x, what + "<" + other, many < other);
            holds(x, what + ">" + other, many > other);
            holds(x, what + "=" + other, many == other);
        }
    }

    static void promise52_crocusComparesWithOneLessAsManyAndOneMore() {
        comparesAround("crocus 0", 3);
    }

    static void promise52_goldComparesWithOneLessAsManyAndOneMore() {
        comparesAround("gold s", 5);
    }

    static void promise52_nothingComparesWith0() {
        SaffronCourt x = Check.courtOf(COURT);
        for (String what : new String[] {"crocus 2", "gold t"}) {
            holds(x, what + "<0", false);
            holds(x, what + "=0", true);
            holds(x, what + ">0", false);
            holds(x, what + "<1", true);
        }
    }

    static void promise52_allThereCanBeComparesWith9999() {
        SaffronCourt x = Scenes.brimming();
        holds(x, "crocus 0=9999", true);
        holds(x, "crocus 0>9999", false);
        holds(x, "crocus 0<9999", false);
        holds(x, "crocus 0>9998", true);
        x.pick(0);
        holds(x, "gold s=9999", true);
        holds(x, "gold s>9999", false);
        holds(x, "gold s<9999", false);
        holds(x, "gold s>9998", true);
    }

    static void promise52_madeIsAskedForAsItIsThen() {
        lived("when made k;pick s;end;make k;when made k;night 1;end;when made l;night 2;end;", 5, 0, 3, 0, 1, 0);
    }

    static void promise52_whatDoesNotHoldIsLeftOutWithAllWithinIt() {
        lived("when made k;loop 9;when made l;stop;end;end;night 1;end;night 2;", 2, 0, 0, 0, 2, 0);
    }

    static void promise52_anEmptyWhenOrLoopIsOneStep() {
        lived("when made k;end;when gold s=5;end;loop 99;end;", 3, 0, 0, 0, 0, 0);
    }

    static void promise52_loopsGoAsOftenAsToldFrom1To99() {
        lived("loop 1;night 1;end;", 2, 0, 0, 0, 1, 0);
        lived("loop 2;night 1;end;", 3, 0, 0, 0, 2, 0);
        lived("loop 99;night 1;end;", 100, 0, 0, 0, 99, 0);
    }

    static void promise52_loopsCountEachTimeTheyAreComeToFromAhead() {
        lived("loop 3;loop 2;night 1;end;end;", 10, 0, 0, 0, 6, 0);
        lived("loop 2;loop 2;loop 2;night 1;end;end;end;", 15, 0, 0, 0, 8, 0);
        lived("loop 5;when made k;end;end;", 6, 0, 0, 0, 0, 0);
    }

    static void promise52_stopEndsAllAtOnce() {
        lived("stop;night 1;", 1, 0, 0, 0, 0, 0);
        lived("loop 9;loop 9;night 1;stop;end;end;night 2;", 4, 0, 0, 0, 1, 0);
        lived("when gold s=5;stop;end;night 2;", 2, 0, 0, 0, 0, 0);
    }

    static void promise52_300StepsAreDoneAndNoneIsLeft() {
        lived(HUNDRED + HUNDRED + HUNDRED, 300, 297, 0, 0, 0, 0);
    }

    static void promise52_a301stStepIsLeft() {
        for (String step : new String[] {"night 1;", "stop;", "loop 1;end;", "when made k;end;", "any;"}) {
            lived(HUNDRED + HUNDRED + HUNDRED + step, 300, 297, 0, 0, 0, 1);
        }
    }

    static void promise52_299StepsAndOneMore() {
        String some = HUNDRED + HUNDRED + "loop 98;forget;end;";
        lived(some, 299, 296, 0, 0, 0, 0);
        lived(some + "night 1;", 300, 296, 0, 0, 1, 0);
        lived(some + "night 1;night 2;", 300, 296, 0, 0, 1, 1);
    }

    static void promise52_behindAStopNoneIsLeft() {
        lived(HUNDRED + HUNDRED + "loop 98;forget;end;stop;night 1;", 300, 296, 0, 0, 0, 0);
    }

    static void promise52_aLoopThatIsThe300thLeavesWhatIsWithinIt() {
        String some = HUNDRED + HUNDRED + "loop 98;forget;end;";
        lived(some + "loop 9;end;", 300, 296, 0, 0, 0, 0);
        lived(some + "loop 1;night 1;end;", 300, 296, 0, 0, 0, 1);
        lived(some + "when made k;night 1;end;", 300, 296, 0, 0, 0, 0);
        lived(some + "when gold s=5;night 1;end;", 300, 296, 0, 0, 0, 1);
    }

    static void promise52_aRoundThatIsStillToComeIsLeft() {
        lived("loop 99;loop 99;forget;end;end;", 300, 296, 0, 0, 0, 1);
        lived(HUNDRED + HUNDRED + "loop 99;forget;end;", 300, 297, 0, 0, 0, 0);
        lived(HUNDRED + HUNDRED + "night 1;loop 99;forget;end;", 300, 296, 0, 0, 1, 1);
    }

    static void promise52_roundsWithoutAStepEnd() {
        lived("loop 99;loop 99;end;end;", 100, 0, 0, 0, 0, 0);
    }

    // ---- lived

    static void promise53_whatIs0To4() {
        Boundaries.range(Scenes::rich, "what", 0, 4, SaffronCourt::lived);
    }

    static void promise53_thereWasNoneIs6And1IsAheadOfIt() {
        for (int what = 0; what <= 4; what++) {
            int w = what;
            Boundaries.refused(Scenes::small, "what " + w, x -> x.lived(w), 6);
        }
        Boundaries.refused(Scenes::small, "what 5", x -> x.lived(5), 1);
        Boundaries.refused(Scenes::small, "what -1", x -> x.lived(-1), 1);
    }

    static void promise53_aLiveWithAnotherStatusIsNone() {
        SaffronCourt x = Scenes.small();
        x.live(0);
        Check.refused("behind 6", x, x.lived(0), 6);
        x.live(-1);
        Check.refused("behind 1", x, x.lived(0), 6);
    }

    static void promise53_aLiveWithAnotherStatusLeavesTheLatest() {
        SaffronCourt x = lived("night 3;", 1, 0, 0, 0, 3, 0);
        x.live(10000);
        Check.due("behind 1", x, x.lived(3), 3, 0);
        x.court(0);
        x.live(0);
        Check.due("behind 6", x, x.lived(3), 3, 0);
    }

    static void promise53_theLatestCounts() {
        SaffronCourt x = lived("make k;pick s;night 3;forget;forget;", 5, 1, 3, 6, 3, 0);
        Check.terms(x, "");
        lives(x, "of no step", 0, 0, 0, 0, 0, 0, 0);
    }

    static void promise53_whetherAStepIsLeftIsOfTheLatest() {
        SaffronCourt x = lived(HUNDRED + HUNDRED + HUNDRED + "any;", 300, 297, 0, 0, 0, 1);
        Check.terms(x, "forget;");
        lives(x, "none is left", 0, 1, 1, 0, 0, 0, 0);
    }

    static void promise53_meanIsNoLive() {
        SaffronCourt x = Scenes.withTerms(COURT, "night 3;");
        x.mean(0, 20);
        Check.refused("behind mean()", x, x.lived(3), 6);
        x.live(0);
        Check.terms(x, "night 4;");
        x.mean(0, 1);
        Check.due("that of live()", x, x.lived(3), 3, 0);
    }

    static void promise53_yieldedAndPickedAreWholeAlsoWhereAllIsFull() {
        SaffronCourt x = Scenes.brimming();
        Check.terms(x, "make k;pick s;forget;make k;pick s;");
        lives(x, "full", 0, 5, 0, 24, 9999 + 12, 0, 0);
        Check.due("gold", x, x.scholar(0, 1), 9999, 0);
    }

    static void promise53_undoDoesNotTakeItBack() {
        SaffronCourt x = Scenes.withTerms(COURT, "night 3;");
        x.mark();
        x.live(0);
        x.undo();
        Check.due("nights", x, x.lived(3), 3, 0);
    }

    // ---- mean

    static void promise54_seedsAre0To9999() {
        Boundaries.rangeDone(Scenes::rich, "seed", 0, 9999, (x, v) -> x.mean(v, 1));
    }

    static void promise54_1To20Seeds() {
        Boundaries.rangeDone(Scenes::rich, "many", 1, 20, (x, v) -> x.mean(0, v));
    }

    static void promise54_theLastAbove9999Is1() {
        SaffronCourt x = Scenes.rich();
        Check.done("the last is 9,999", x, x.mean(9980, 20));
        Check.done("the last is 9,999", x, x.mean(9998, 2));
        Boundaries.denied(Scenes::rich, "the last is 10,000", y -> y.mean(9981, 20), 1);
        Boundaries.denied(Scenes::rich, "the last is 10,000", y -> y.mean(9999, 2), 1);
        Boundaries.denied(Scenes::rich, "a sum that wraps around", y -> y.mean(Integer.MAX_VALUE, 20), 1);
        Boundaries.denied(Scenes::rich, "a sum that wraps around", y -> y.mean(1, Integer.MAX_VALUE), 1);
    }

    static void promise54_noTermsIs6And1IsAheadOfIt() {
        Boundaries.denied(Scenes::small, "no terms", x -> x.mean(0, 1), 6);
        Boundaries.denied(Scenes::small, "many 0", x -> x.mean(0, 0), 1);
        Boundaries.denied(Scenes::small, "seed -1", x -> x.mean(-1, 1), 1);
        Boundaries.denied(Scenes::small, "the last above 9,999", x -> x.mean(9999, 2), 1);
    }

    static void promise54_termsOfNoStepLeaveTheGold() {
        Boundaries.told(() -> Scenes.withTerms(COURT, ""), "all gold", x -> x.mean(0, 20), 5, 1);
    }

    static void promise54_withoutGold0By1() {
        Boundaries.told(() -> Scenes.withTerms("bed;", "any;"), "no scholars", x -> x.mean(0, 20), 0, 1);
    }

    static void promise54_allStaysAsItIs() {
        SaffronCourt x = Scenes.rich();
        x.mean(0, 20);
        long top = x.top();
        long bottom = x.bottom();
        Boundaries.told(Scenes::rich, "mean", y -> y.mean(0, 20), top, bottom);
    }

    static void promise54_itIsTheMeanByEachSeedAlone() {
        for (int[] seeds : new int[][] {{0, 1}, {0, 20}, {9980, 20}, {9999, 1}, {77, 7}}) {
            long gold = 0;
            for (int i = 0; i < seeds[1]; i++) {
                SaffronCourt y = Scenes.rich();
                y.live(seeds[0] + i);
                gold += y.told(9);
            }
            SaffronCourt x = Scenes.rich();
            Check.done("mean", x, x.mean(seeds[0], seeds[1]));
            Check.due("mean", x.top() * seeds[1], gold * x.bottom());
        }
    }
}
