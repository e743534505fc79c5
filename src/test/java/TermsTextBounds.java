import java.util.List;

/** Boundary cases of the text of TERMS, and of fault(): promises 11 and 12. */
final class TermsTextBounds {
    private static final int NONE = SaffronCourt.NONE;
    // Three beds; claims ka and kb; scholars sa and sb; a case ca.
    private static final String COURT = "bed;bed;bed;case ca weight 1;claim ka at 0 of ca;claim kb at 1 of;"
        + "scholar sa at 0;scholar sb at 1;";
    private static final String[] SAMPLE = ("make ka ; walk sb 2 ; pick sa ; night 40 ; forget ; any ; when made kb ; loop 99 ; "
        + "when crocus 2 < 9999 ; stop ; end ; end ; end ; when crocus 0 > 0 ; end ; when gold sb = 12 ; any ; end ; loop 1 ; end ;")
        .split(" ");

    private TermsTextBounds() {
    }

    private static void taken(String text, int steps) {
        SaffronCourt x = Check.courtOf(COURT);
        Check.due("terms: " + text, x, Check.terms(x, text), steps, 0);
        Check.due("no fault in: " + text, x.fault(0), 0);
        Check.due("no place in: " + text, x.fault(1), NONE);
    }

    private static void fault(String text, int kind, int place) {
        Check.termsFault(COURT, text, kind, place);
    }

    /** A tape that has 320 bytes: three hundred with a STEP at their very end, then blanks. */
    private static SaffronCourt longTape() {
        SaffronCourt x = Check.courtOf(COURT);
        Check.terms(x, "forget;");
        Check.feed(x, " ".repeat(296) + "any;" + " ".repeat(20));
        return x;
    }

    static void promise11_nBelow0Is1() {
        for (int n : new int[] {-1, Integer.MIN_VALUE}) {
            Boundaries.refused(Scenes::rich, "terms(" + n + ")", x -> x.terms(n), 1);
        }
    }

    static void promise11_nMoreThanTheTapeHasIs1() {
        for (int n : new int[] {41, 300, Integer.MAX_VALUE}) {
            Boundaries.refused(Scenes::rich, "terms(" + n + ")", x -> x.terms(n), 1);
        }
    }

    static void promise11_300BytesAreTaken() {
        SaffronCourt x = longTape();
        Check.due("terms(300)", x, x.terms(300), 1, 0);
        Check.due("the tape is empty then", x.feed(0, 0, 0, 0, 0), 20);
    }

    static void promise11_ofA300BytesTextTheLastCounts() {
        SaffronCourt x = longTape();
        Check.refused("terms(299)", x, x.terms(299), 9);
        Check.due("kind", x.fault(0), 2);
        Check.due("place", x.fault(1), 299);
    }

    static void promise11_above300Is1AndLeavesTheTape() {
        for (int n : new int[] {301, 320, 321}) {
            Boundaries.refused(TermsTextBounds::longTape, "terms(" + n + ")", x -> x.terms(n), 1);
        }
        SaffronCourt x = longTape();
        x.terms(301);
        Check.due("what was on it", x, x.terms(300), 1, 0);
    }

    static void promise11_nOf0IsTermsOfNoStep() {
        SaffronCourt x = longTape();
        Check.due("terms(0)", x, x.terms(0), 0, 0);
        Check.due("the tape is empty then", x.feed(0, 0, 0, 0, 0), 20);
        Check.due("nothing is done", x, x.live(0), 0, 0);
        taken(" \n", 0);
    }

    static void promise11_whatIsBehindNIsNotRead() {
        SaffronCourt x = Check.courtOf(COURT);
        Check.feed(x, "any;?");
        Check.due("terms(4)", x, x.terms(4), 1, 0);
        Check.due("the tape is empty then", x.feed(0, 0, 0, 0, 0), 20);
    }

    static void promise11_aTokenEndsWhereTheTextEnds() {
        SaffronCourt x = Check.courtOf(COURT);
        Check.feed(x, "night 12345;");
        Check.refused("night 1234", x, x.terms(10), 9);
        Check.due("kind", x.fault(0), 4);
        Check.due("place", x.fault(1), 6);
        Check.feed(x, "any;any;");
        Check.refused("an", x, x.terms(6), 9);
        Check.due("kind", x.fault(0), 2);
        Check.due("place", x.fault(1), 4);
    }

    static void promise11_theTapeIsEmptyBehindAFault() {
        SaffronCourt x = longTape();
        Check.refused("terms(298)", x, x.terms(298), 9);
        Check.due("feed", x.feed(0, 0, 0, 0, 0), 20);
    }

    static void promise11_aFaultLeavesTheOldOnesAndTheCourt() {
        String[] texts = {"?", "odds", "make xx;", "night 41;", "", Check.times("any;", 31), "loop 1;loop 1;loop 1;loop"};
        int[] places = {0, 0, 5, 6, 0, 120, 21};
        for (int kind : new int[] {1, 2, 3, 4, 6, 7}) {
            String text = texts[kind - 1];
            Boundaries.faulty(TermsTextBounds::emptied, text, x -> Check.terms(x, text), kind, places[kind - 1]);
        }
    }

    private static SaffronCourt emptied() {
        SaffronCourt x = Scenes.rich();
        Check.refused("a fault empties the tape", x, x.terms(1), 9);
        return x;
    }

    static void promise11_theyAreInPlaceOfThoseAhead() {
        SaffronCourt x = Check.courtOf(COURT);
        Check.terms(x, Check.times("any;", 30));
        Check.due("thirty", x, x.live(0), 30, 0);
        Check.due("one", x, Check.terms(x, "stop;"), 1, 0);
        Check.due("lived", x, x.live(0), 1, 0);
    }

    static void promise11_namesAreThoseOfTheCourtThatIsThere() {
        SaffronCourt x = Check.courtOf(COURT);
        Check.court(x, "bed;scholar sc at 0;");
        Check.refused("a scholar of that ahead", x, Check.terms(x, "pick sa;"), 9);
        Check.due("kind", x.fault(0), 3);
        Check.due("the new one", x, Check.terms(x, "pick sc;"), 1, 0);
        Check.refused("no claims", x, Check.terms(x, "make ka;"), 9);
    }

    static void promise11_namesBehindThoseThatAreThereAreNone() {
        String[] texts = {"make kb;", "when made kb;end;", "pick sb;", "walk sb 0;", "when gold sb<1;end;"};
        int[] places = {5, 10, 5, 5, 10};
        for (int i = 0; i < texts.length; i++) {
            SaffronCourt x = Check.courtOf(COURT);
            Check.court(x, "bed;claim kc at 0 of;scholar sc at 0;");
            Check.refused("a name of that ahead: " + texts[i], x, Check.terms(x, texts[i]), 9);
            Check.due("kind", x.fault(0), 3);
            Check.due("place", x.fault(1), places[i]);
        }
    }

    static void promise11_theLastOfAllNamesAreKnown() {
        SaffronCourt x = Scenes.full();
        Check.due("terms", x, Check.terms(x, "make kg;when made kg;walk sd 0;pick sd;end;when gold sd=2;night 1;end;"), 6, 0);
        Check.due("live", x, x.live(0), 6, 0);
        Check.due("made", x, x.told(6), 64, 0);
        Check.due("gold", x, x.scholar(3, 1), 2, 0);
        Check.due("night", x, x.told(5), 1, 0);
    }

    static void promise11_termsWithoutNamesNeedNoCourt() {
        SaffronCourt x = new SaffronCourt();
        Check.due("terms", x, Check.terms(x, "any;forget;night 1;loop 2;stop;end;"), 5, 0);
    }

    static void promise11_thirtyStepsAreTaken() {
        taken(Check.times("any;", 30), 30);
        taken(Check.times("loop 1;", 3) + Check.times("any;", 27) + Check.times("end;", 3), 30);
    }

    static void promise11_a31stStepIsFault6AtItsWord() {
        fault(Check.times("any;", 30) + " any;", 6, 121);
        fault(Check.times("any;", 30) + "make", 6, 120);
        for (String step : new String[] {"make ka;", "walk sa 0;", "pick sa;", "night 1;", "forget;", "when made ka;", "loop 1;", "stop;"}) {
            fault(Check.times("any;", 30) + step, 6, 120);
        }
    }

    static void promise11_anEndIsNoStep() {
        taken(Check.times("loop 1;end;", 27), 27);
        taken("loop 1;" + Check.times("any;", 29) + "end;", 30);
        fault("loop 1;" + Check.times("any;", 29) + "end;any;", 6, 127);
        fault("loop 1;" + Check.times("any;", 29) + "any;end;", 6, 123);
    }

    static void promise11_threeMayBeWithinEachOther() {
        taken("loop 1;loop 1;loop 1;any;end;end;end;", 4);
        taken("when made ka;when made kb;when gold sa=0;end;end;end;", 3);
        taken("loop 1;when made kb;loop 2;end;loop 3;end;end;end;when crocus 0=0;end;", 5);
    }

    static void promise11_aWhenOrLoopWithinThreeOthersIsFault7AtItsWord() {
        fault("loop 1;loop 1;loop 1;loop 1;end;", 7, 21);
        fault("loop 1;loop 1;loop 1;any; when made ka;", 7, 26);
        fault("when made ka;when made ka;when made ka;when?", 7, 39);
        fault("loop 1;loop 1;loop 1;end;loop 1;loop", 7, 32);
    }

    static void promise11_a31stStepWithinThreeOthersIs6() {
        fault("loop 1;loop 1;loop 1;" + Check.times("any;", 27) + "loop 1;", 6, 129);
        fault("loop 1;loop 1;loop 1;" + Check.times("any;", 27) + "when", 6, 129);
        fault("loop 1;loop 1;loop 1;" + Check.times("any;", 26) + "loop", 7, 125);
    }

    static void promise11_anEndWithoutABeginningIsFault2() {
        fault("end;", 2, 0);
        fault("any;end;", 2, 4);
        fault("loop 1;end;end;", 2, 11);
    }

    static void promise11_theTextsEndAheadOfAnEndIsFault2AtItsLength() {
        fault("loop 1;", 2, 7);
        fault("loop 1; \n", 2, 9);
        fault("loop 1;when made ka;end;", 2, 24);
        fault("when made ka;any;", 2, 17);
    }

    static void promise11_aTextThatEndsTooSoonIsFault2AtItsLength() {
        int open = 0;
        for (int many = 1; many <= SAMPLE.length; many++) {
            String last = SAMPLE[many - 1];
            open += last.equals("when") || last.equals("loop") ? 1 : last.equals("end") ? -1 : 0;
            String text = String.join(" ", List.of(SAMPLE).subList(0, many));
            if (!last.equals(";") || open > 0) {
                fault(text, 2, text.length());
            }
        }
        taken(String.join(" ", SAMPLE), 14);
    }

    static void promise11_aTokenThatCantStandIsFault2AtEachPlace() {
        for (String other : new String[] {"odds", "abcdefghi", "bed"}) {
            CourtTextBounds.inPlaceOfEach(SAMPLE, other, (text, place) -> fault(text, 2, place));
        }
    }

    static void promise11_whatBeginsNoTokenIsFault1AtEachPlace() {
        for (String other : new String[] {"?", "10000"}) {
            CourtTextBounds.inPlaceOfEach(SAMPLE, other, (text, place) -> fault(text, 1, place));
        }
    }

    static void promise11_eachByteIsABlankOrATokenOrFault1() {
        for (int b = 0; b < 256; b++) {
            if (b == 10 || b == 32) {
                taken("any;" + (char) b, 1);
            } else {
                fault("any;" + (char) b, CourtTextBounds.beginsToken(b) ? 2 : 1, 4);
            }
        }
    }

    static void promise11_keywordsAreNoNames() {
        for (String word : CourtTextBounds.KEYWORDS) {
            fault("make " + word + ";", 2, 5);
            fault("pick " + word + ";", 2, 5);
            fault("when made " + word + ";", 2, 10);
            fault("when gold " + word + ">0;", 2, 10);
        }
    }

    static void promise11_onlyStepsMayBegin() {
        String steps = " make walk pick night forget any when loop stop ";
        for (String word : CourtTextBounds.KEYWORDS) {
            if (!steps.contains(" " + word + " ")) {
                fault(word + ";", 2, 0);
            }
        }
        fault("ka;", 2, 0);
        fault("1;", 2, 0);
        fault(";", 2, 0);
    }

    static void promise11_aClaimStandsBehindMakeAndMade() {
        taken("make ka;make kb;when made ka;end;when made kb;end;", 4);
        for (String name : new String[] {"sa", "ca", "kc", "k", "kaa"}) {
            fault("make " + name + ";", 3, 5);
            fault("when made " + name + ";end;", 3, 10);
        }
    }

    static void promise11_aScholarStandsBehindWalkAndPickAndGold() {
        taken("walk sa 0;walk sb 0;pick sa;pick sb;when gold sa<1;end;when gold sb<1;end;", 6);
        for (String name : new String[] {"ka", "ca", "sc", "s", "saa"}) {
            fault("walk " + name + " 0;", 3, 5);
            fault("pick " + name + ";", 3, 5);
            fault("when gold " + name + ">0;end;", 3, 10);
        }
    }

    static void promise11_aClaimThatWasThoughtHasNoName() {
        SaffronCourt x = Check.courtOf(COURT);
        x.think(1, 0, 1);
        for (String name : new String[] {"kc", "a", "z"}) {
            Check.refused("make " + name, x, Check.terms(x, "make " + name + ";"), 9);
            Check.due("kind", x.fault(0), 3);
        }
        Check.due("the others have theirs", x, Check.terms(x, "make kb;"), 1, 0);
    }

    static void promise11_walksAreToABedThatIsThere() {
        taken("walk sa 0;walk sa 2;", 2);
        fault("walk sa 3;", 4, 8);
        fault("walk sa 9999;", 4, 8);
    }

    static void promise11_nightsAre1To40() {
        taken("night 1;night 40;", 2);
        fault("night 0;", 4, 6);
        fault("night 41;", 4, 6);
    }

    static void promise11_loopsAre1To99() {
        taken("loop 1;end;loop 99;end;", 2);
        fault("loop 0;end;", 4, 5);
        fault("loop 100;end;", 4, 5);
    }

    static void promise11_crocusIsOfABedThatIsThere() {
        taken("when crocus 0<1;end;when crocus 2<1;end;", 2);
        fault("when crocus 3<1;end;", 4, 12);
    }

    static void promise11_crocusIsAgainst0To9999() {
        taken("when crocus 0<0;end;when crocus 0>9999;end;", 2);
        fault("when crocus 0<10000;end;", 1, 14);
    }

    static void promise11_goldIsAgainst0To9999() {
        taken("when gold sa<0;end;when gold sa>9999;end;", 2);
        fault("when gold sa<10000;end;", 1, 13);
    }

    static void promise11_comparesAreThreeSigns() {
        taken("when gold sa<1;end;when gold sa>1;end;when gold sa=1;end;", 3);
        fault("when gold sa;1;end;", 2, 12);
        fault("when gold sa 1;end;", 2, 13);
        fault("when gold sa<=1;end;", 2, 13);
        fault("when crocus 0 ; 1;end;", 2, 14);
    }

    static void promise11_namesMayHave8LettersAndNot9() {
        SaffronCourt x = Check.courtOf("bed;claim abcdefgh at 0 of;scholar zzzzzzzz at 0;");
        Check.due("eight", x, Check.terms(x, "make abcdefgh;pick zzzzzzzz;"), 2, 0);
        Check.refused("nine", x, Check.terms(x, "make abcdefghi;"), 9);
        Check.due("kind", x.fault(0), 2);
        Check.due("place", x.fault(1), 5);
    }

    static void promise11_theFirstFaultAlongTheTextCounts() {
        fault("night 41?", 4, 6);
        fault("make xx?", 3, 5);
        fault("end?", 2, 0);
        fault("any ?night 0;", 1, 4);
    }

    static void promise12_aheadOfAnyTextItIsNone() {
        SaffronCourt x = new SaffronCourt();
        x.court(1);
        x.terms(301);
        Check.due("kind behind STATUS 1", x.fault(0), NONE);
        Check.due("place behind STATUS 1", x.fault(1), NONE);
    }

    static void promise12_withoutOneItIs0AndNone() {
        SaffronCourt x = new SaffronCourt();
        x.court(0);
        Check.due("kind of court", x.fault(0), 0);
        Check.due("place of court", x.fault(1), NONE);
        SaffronCourt y = new SaffronCourt();
        y.terms(0);
        Check.due("kind of terms", y.fault(0), 0);
        Check.due("place of terms", y.fault(1), NONE);
    }

    static void promise12_otherWhatsAreNone() {
        SaffronCourt x = new SaffronCourt();
        Check.court(x, "bed;?");
        for (int what : new int[] {-1, 2, Integer.MIN_VALUE, Integer.MAX_VALUE}) {
            Check.due("what " + what, x.fault(what), NONE);
        }
        Check.due("kind", x.fault(0), 1);
        Check.due("place", x.fault(1), 4);
    }

    static void promise12_aFaultAtTheVeryFirstByteHasPlace0() {
        SaffronCourt x = new SaffronCourt();
        Check.court(x, "?");
        Check.due("place", x.fault(1), 0);
    }

    static void promise12_theLatestTextWith0Or9Counts() {
        SaffronCourt x = new SaffronCourt();
        Check.court(x, "bed;?");
        Check.terms(x, "any;night 0;");
        Check.due("of terms", x.fault(0), 4);
        Check.due("of terms", x.fault(1), 10);
        Check.court(x, "bed;");
        Check.due("of a court without", x.fault(0), 0);
        Check.due("of a court without", x.fault(1), NONE);
    }

    static void promise12_atextWith1ChangesNothing() {
        SaffronCourt x = new SaffronCourt();
        Check.court(x, "bed;?");
        x.court(-1);
        x.terms(-1);
        x.terms(301);
        Check.due("kind", x.fault(0), 1);
        Check.due("place", x.fault(1), 4);
    }

    static void promise12_undoDoesNotTakeItBack() {
        SaffronCourt x = new SaffronCourt();
        Check.court(x, "bed;");
        x.mark();
        Check.court(x, "bed;?");
        x.undo();
        Check.due("kind", x.fault(0), 1);
        Check.due("place", x.fault(1), 4);
    }
}
