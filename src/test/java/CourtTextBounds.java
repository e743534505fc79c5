import java.util.ArrayList;
import java.util.List;

/** Boundary cases of the text of a COURT and of its FAULTS: promise 10. */
final class CourtTextBounds {
    static final String[] KEYWORDS = ("odds bed crocus sham case weight claim at cost of scholar gold make walk pick "
        + "night forget any when made loop end stop").split(" ");
    private static final String[] SAMPLE = ("odds 16 ; bed ; bed crocus 99 sham 98 ; bed sham 1 ; case a weight 20 ; "
        + "case bb weight 1 ; claim no at 0 of ; claim k at 2 cost 9 of bb a ; scholar s at 1 ; scholar t at 0 gold 999 ;")
        .split(" ");

    private CourtTextBounds() {
    }

    private static SaffronCourt taken(String text) {
        return Check.courtOf(text);
    }

    /** A text of TOKENS with one in place of another, and where it stands. */
    static void inPlaceOfEach(String[] tokens, String other, FaultOf fault) {
        for (int i = 0; i < tokens.length; i++) {
            List<String> text = new ArrayList<>(List.of(tokens));
            text.set(i, other);
            int place = String.join(" ", text.subList(0, i)).length() + (i == 0 ? 0 : 1);
            fault.at(String.join(" ", text), place);
        }
    }

    interface FaultOf {
        void at(String text, int place);
    }

    static boolean isSign(int b) {
        return b == ';' || b == '<' || b == '>' || b == '=';
    }

    static boolean beginsToken(int b) {
        return b >= 'a' && b <= 'z' || b >= '0' && b <= '9' || isSign(b);
    }

    static void promise10_anEmptyTextIsACourt() {
        SaffronCourt x = taken("");
        Check.due("fault", x.fault(0), 0);
        Check.due("blanks alone", x, Check.court(x, " \n "), 0, 0);
    }

    static void promise10_blanksAre10And32Alone() {
        SaffronCourt x = taken("\n\n bed\ncrocus \n3\n;\n ");
        Check.due("crocuses", x, x.bed(0, 0), 3, 0);
        for (int b = 0; b < 256; b++) {
            if (b != 10 && b != 32 && !beginsToken(b)) {
                Check.courtFault("bed;" + (char) b, 1, 4);
            }
        }
    }

    static void promise10_eachByteThatBeginsATokenIsFault2WhereNoneMayStand() {
        for (int b = 0; b < 256; b++) {
            if (beginsToken(b)) {
                Check.courtFault("bed;" + (char) b, 2, 4);
            }
        }
    }

    static void promise10_tokensGoAsLongAsTheyGo() {
        SaffronCourt x = taken("odds16;bed crocus1sham2;case a weight3;claim b at0cost4of a;scholar c at0gold5;");
        Check.due("odds", x, x.told(4), 16, 0);
        Check.due("crocuses", x, x.bed(0, 0), 1, 0);
        Check.due("shams", x, x.bed(0, 1), 2, 0);
        Check.due("cost", x, x.claim(0, 1), 4, 0);
        Check.due("gold", x, x.scholar(0, 1), 5, 0);
        Check.courtFault("bedbed;", 2, 0);
        Check.courtFault("bedsham 1;", 2, 0);
        Check.courtFault("be d;", 2, 0);
        Check.courtFault("odds 1 6;", 2, 7);
    }

    static void promise10_numbersHave1To4Digits() {
        Check.due("one", taken("odds 7;").told(4), 7);
        Check.due("four", taken("odds 0016;").told(4), 16);
        Check.courtFault("odds 00016;", 1, 5);
    }

    static void promise10_numbersOf5DigitsAndMoreAreFault1AtTheFirst() {
        Check.courtFault("odds 00001;", 1, 5);
        Check.courtFault("bed crocus  12345", 1, 12);
        Check.courtFault("12345", 1, 0);
        Check.courtFault("odds 4294967297;", 1, 5);
        Check.courtFault("odds 18446744073709551617;", 1, 5);
        Check.courtFault("odds " + "0".repeat(800) + "1;", 1, 5);
    }

    static void promise10_numbersOf4DigitsThatAreTooLargeAreFault4() {
        Check.courtFault("odds 9999;", 4, 5);
        Check.courtFault("bed crocus 9999;", 4, 11);
    }

    static void promise10_keywordsAreNoNames() {
        for (String word : KEYWORDS) {
            Check.courtFault("case " + word + " weight 1;", 2, 5);
            Check.courtFault("bed;claim " + word + " at 0 of;", 2, 10);
            Check.courtFault("bed;scholar " + word + " at 0;", 2, 12);
            Check.courtFault("bed;claim k at 0 of " + word + ";", 2, 20);
        }
    }

    static void promise10_wordsOfALetterMoreOrLessThanKeywordsAreNames() {
        for (String word : KEYWORDS) {
            taken("case " + word + "q weight 1;");
            taken("case q" + word + " weight 1;");
            taken("case " + word.substring(0, word.length() - 1) + " weight 1;");
        }
    }

    static void promise10_namesHave1To8Letters() {
        for (String name : new String[] {"a", "z", "abcdefgh", "zzzzzzzz"}) {
            SaffronCourt x = taken("bed;case " + name + " weight 1;claim k at 0 of " + name + ";");
            Check.due("true of " + name, x, x.claim(0, 2), 1, 0);
            taken("bed;claim " + name + " at 0 of;");
            taken("bed;scholar " + name + " at 0;");
        }
    }

    static void promise10_aWordOf9LettersWhereANameMustStandIsFault2() {
        for (String word : new String[] {"abcdefghi", "zzzzzzzzz", "a".repeat(400)}) {
            Check.courtFault("case " + word + " weight 1;", 2, 5);
            Check.courtFault("bed;claim " + word + " at 0 of;", 2, 10);
            Check.courtFault("bed;scholar " + word + " at 0;", 2, 12);
            Check.courtFault("bed;claim k at 0 of " + word + ";", 2, 20);
        }
    }

    static void promise10_namesThatDifferInOneLetterAreTwo() {
        SaffronCourt x = taken("bed;case abcdefgh weight 1;case abcdefgi weight 1;case bbcdefgh weight 1;case abcdefg weight 1;"
            + "claim k at 0 of abcdefgi abcdefg;");
        Check.due("true of", x, x.claim(0, 2), 10, 0);
        SaffronCourt y = taken("bed;case a weight 1;case aa weight 1;case aaaaaaaa weight 1;claim k at 0 of aa;");
        Check.due("true of", y, y.claim(0, 2), 2, 0);
    }

    static void promise10_oneNameIsOfOneThingAlone() {
        String[] things = {"case # weight 1;", "claim # at 0 of;", "scholar # at 0;"};
        for (String one : things) {
            for (String other : things) {
                String text = "bed;" + one.replace("#", "x");
                Check.courtFault(text + other.replace("#", "x"), 3, text.length() + other.indexOf('#'));
                taken(text + other.replace("#", "y"));
            }
        }
    }

    static void promise10_aNameIsTakenWhetherTheLastOrTheFirst() {
        Check.courtFault(Check.times("case # weight 1;", 7) + "case a weight 1;", 3, 117);
        Check.courtFault(Check.times("case # weight 1;", 7) + "case g weight 1;", 3, 117);
        Check.courtFault("bed;" + Check.times("claim # at 0 of;", 6) + "claim f at 0 of;", 3, 106);
        Check.courtFault("bed;" + Check.times("scholar # at 0;", 3) + "scholar a at 0;", 3, 57);
    }

    static void promise10_oddsAre0To16() {
        Check.due("0", taken("odds 0;").told(4), 0);
        Check.due("16", taken("odds 16;").told(4), 16);
        Check.courtFault("odds 17;", 4, 5);
    }

    static void promise10_oddsAre8Without() {
        Check.due("without", taken("bed;").told(4), 8);
    }

    static void promise10_oddsToldTwiceAreFault5AtThatWord() {
        Check.courtFault("odds 8;odds 8;", 5, 7);
        Check.courtFault("odds 1;bed; odds ?", 5, 12);
        Check.courtFault("odds 1;odds", 5, 7);
    }

    static void promise10_sixBedsAreTakenASeventhIsFault6AtThatWord() {
        Check.due("six", taken(Check.times("bed;", 6)).told(0), 6);
        Check.courtFault(Check.times("bed;", 6) + " bed;", 6, 25);
        Check.courtFault(Check.times("bed;", 6) + "bed crocus 100?", 6, 24);
    }

    static void promise10_crocusesAre0To99() {
        Check.due("0", taken("bed crocus 0;").bed(0, 0), 0);
        Check.due("99", taken("bed crocus 99;").bed(0, 0), 99);
        Check.courtFault("bed crocus 100;", 4, 11);
    }

    static void promise10_shamsAre0To99() {
        Check.due("0", taken("bed sham 0;").bed(0, 1), 0);
        Check.due("99", taken("bed crocus 1 sham 99;").bed(0, 1), 99);
        Check.courtFault("bed sham 100;", 4, 9);
        Check.courtFault("bed crocus 1 sham 100;", 4, 18);
    }

    static void promise10_crocusesAndShamsAre0Without() {
        SaffronCourt x = taken("bed crocus 5;bed sham 6;bed;bed crocus 7 sham 8;");
        int[] crocuses = {5, 0, 0, 7};
        int[] shams = {0, 6, 0, 8};
        for (int bed = 0; bed < 4; bed++) {
            Check.due("crocuses", x, x.bed(bed, 0), crocuses[bed], 0);
            Check.due("shams", x, x.bed(bed, 1), shams[bed], 0);
        }
    }

    static void promise10_whatMayStandIsToldOnceAndInItsOrder() {
        Check.courtFault("bed sham 1 crocus 1;", 2, 11);
        Check.courtFault("bed crocus 1 crocus 1;", 2, 13);
        Check.courtFault("bed sham 1 sham 1;", 2, 11);
        Check.courtFault("bed;claim k at 0 cost 1 cost 1 of;", 2, 24);
        Check.courtFault("bed;claim k at 0 of cost 1;", 2, 20);
        Check.courtFault("bed;scholar s at 0 gold 1 gold 1;", 2, 26);
    }

    static void promise10_eightCasesAreTakenANinthIsFault6AtThatWord() {
        Check.due("eight", taken(Check.times("case # weight 1;", 8)).told(1), 8);
        Check.courtFault(Check.times("case # weight 1;", 8) + " case i weight 1;", 6, 129);
        Check.courtFault(Check.times("case # weight 1;", 8) + "case a", 6, 128);
    }

    static void promise10_weightsAre1To20() {
        Check.due("1", taken("case a weight 1;").weight(0), 1);
        Check.due("20", taken("case a weight 20;").weight(0), 20);
        Check.courtFault("case a weight 0;", 4, 14);
        Check.courtFault("case a weight 21;", 4, 14);
        Check.courtFault("case a;", 2, 6);
    }

    static void promise10_sevenClaimsAreTakenAnEighthIsFault6AtThatWord() {
        Check.due("seven", taken("bed;" + Check.times("claim # at 0 of;", 7)).told(2), 7);
        Check.courtFault("bed;" + Check.times("claim # at 0 of;", 7) + "\nclaim h at 0 of;", 6, 117);
        Check.courtFault("bed;" + Check.times("claim # at 0 of;", 7) + "claim a", 6, 116);
    }

    static void promise10_claimsAreAtABedThatIsTold() {
        SaffronCourt x = taken("bed;bed;claim k at 0 of;claim l at 1 of;");
        Check.due("the first", x, x.claim(0, 0), 0, 0);
        Check.due("the last", x, x.claim(1, 0), 1, 0);
        Check.courtFault("bed;bed;claim k at 2 of;", 4, 19);
        Check.courtFault("claim k at 0 of;bed;", 4, 11);
        Check.courtFault("bed;claim k at 1 of;bed;", 4, 15);
        Check.due("the sixth", taken(Check.times("bed;", 6) + "claim k at 5 of;").claim(0, 0), 5);
        Check.courtFault(Check.times("bed;", 6) + "claim k at 6 of;", 4, 35);
    }

    static void promise10_costsAre1To9() {
        Check.due("1", taken("bed;claim k at 0 cost 1 of;").claim(0, 1), 1);
        Check.due("9", taken("bed;claim k at 0 cost 9 of;").claim(0, 1), 9);
        Check.courtFault("bed;claim k at 0 cost 0 of;", 4, 22);
        Check.courtFault("bed;claim k at 0 cost 10 of;", 4, 22);
    }

    static void promise10_aCostIs1Without() {
        Check.due("without", taken("bed;claim j at 0 cost 9 of;claim k at 0 of;").claim(1, 1), 1);
    }

    static void promise10_claimsAreTrueOfNoneUpToAllCases() {
        String cases = "bed;" + Check.times("case # weight 1;", 8);
        SaffronCourt x = taken(cases + "claim ka at 0 of;claim kb at 0 of h g f e d c b a;claim kc at 0 of h;claim kd at 0 of a;");
        int[] due = {0, 255, 128, 1};
        for (int claim = 0; claim < 4; claim++) {
            Check.due("of", x, x.claim(claim, 2), due[claim], 0);
        }
        Check.courtFault(cases + "claim ka at 0 of a b c d e f g h a;", 5, 165);
        Check.courtFault(cases + "claim ka at 0 of a b c d e f g h i;", 3, 165);
    }

    static void promise10_aCaseToldTwiceInOneClaimIsFault5AtTheSecond() {
        Check.courtFault("bed;case a weight 1;case b weight 1;claim k at 0 of a b a;", 5, 56);
        Check.courtFault("bed;case a weight 1;claim k at 0 of a a", 5, 38);
        taken("bed;case a weight 1;claim k at 0 of a;claim l at 0 of a;");
    }

    static void promise10_fourScholarsAreTakenAFifthIsFault6AtThatWord() {
        Check.due("four", taken("bed;" + Check.times("scholar # at 0;", 4)).told(3), 4);
        Check.courtFault("bed;" + Check.times("scholar # at 0;", 4) + " scholar e at 0;", 6, 65);
        Check.courtFault("bed;" + Check.times("scholar # at 0;", 4) + "scholar a", 6, 64);
    }

    static void promise10_scholarsAreAtABedThatIsTold() {
        SaffronCourt x = taken("bed;bed;scholar s at 0;scholar t at 1;");
        Check.due("the first", x, x.scholar(0, 0), 0, 0);
        Check.due("the last", x, x.scholar(1, 0), 1, 0);
        Check.courtFault("bed;bed;scholar s at 2;", 4, 21);
        Check.courtFault("scholar s at 0;bed;", 4, 13);
    }

    static void promise10_goldIs0To999() {
        Check.due("0", taken("bed;scholar s at 0 gold 0;").scholar(0, 1), 0);
        Check.due("999", taken("bed;scholar s at 0 gold 999;").scholar(0, 1), 999);
        Check.courtFault("bed;scholar s at 0 gold 1000;", 4, 24);
    }

    static void promise10_goldIs0Without() {
        Check.due("without", taken("bed;scholar s at 0 gold 9;scholar t at 0;").scholar(1, 1), 0);
    }

    static void promise10_whatIsNamedMustBeToldAhead() {
        Check.courtFault("bed;claim k at 0 of a;case a weight 1;", 3, 20);
        taken("bed;case a weight 1;claim k at 0 of a;");
    }

    static void promise10_aNameThatIsNoCaseIsFault3() {
        Check.courtFault("bed;claim k at 0 of k;", 3, 20);
        Check.courtFault("bed;claim j at 0 of;claim k at 0 of j;", 3, 36);
        Check.courtFault("bed;scholar s at 0;claim k at 0 of s;", 3, 35);
        Check.courtFault("bed;case a weight 1;claim k at 0 of a x;", 3, 38);
    }

    static void promise10_allAreNumberedAsTheyStandAlsoMixed() {
        SaffronCourt x = taken("case a weight 7;bed crocus 1;scholar s at 0 gold 2;claim k at 0 of a;odds 2;"
            + "case b weight 9;claim l at 0 of b;bed crocus 4;scholar t at 1 gold 5;");
        Check.due("weight", x, x.weight(1), 9, 0);
        Check.due("of", x, x.claim(0, 2), 1, 0);
        Check.due("of", x, x.claim(1, 2), 2, 0);
        Check.due("crocuses", x, x.bed(1, 0), 4, 0);
        Check.due("gold", x, x.scholar(1, 1), 5, 0);
    }

    static void promise10_aTextThatEndsTooSoonIsFault2AtItsLength() {
        for (int many = 1; many <= SAMPLE.length; many++) {
            String text = String.join(" ", List.of(SAMPLE).subList(0, many));
            if (SAMPLE[many - 1].equals(";")) {
                taken(text);
            } else {
                Check.courtFault(text, 2, text.length());
                Check.courtFault(text + " \n", 2, text.length() + 2);
            }
        }
    }

    static void promise10_aTokenThatCantStandIsFault2AtEachPlace() {
        inPlaceOfEach(SAMPLE, "<", (text, place) -> Check.courtFault(text, 2, place));
        inPlaceOfEach(SAMPLE, "make", (text, place) -> Check.courtFault(text, 2, place));
        inPlaceOfEach(SAMPLE, "abcdefghi", (text, place) -> Check.courtFault(text, 2, place));
    }

    static void promise10_whatBeginsNoTokenIsFault1AtEachPlace() {
        inPlaceOfEach(SAMPLE, "?", (text, place) -> Check.courtFault(text, 1, place));
        inPlaceOfEach(SAMPLE, "00001", (text, place) -> Check.courtFault(text, 1, place));
    }

    static void promise10_theFirstFaultAlongTheTextCounts() {
        Check.courtFault("odds 17?", 4, 5);
        Check.courtFault("bed 1 ?", 2, 4);
        Check.courtFault("case a weight 0;case a weight 1;", 4, 14);
        Check.courtFault("case a weight 1;case a weight 0;", 3, 21);
        Check.courtFault("odds 1;odds 17;", 5, 7);
        Check.courtFault(Check.times("bed;", 6) + "bed?", 6, 24);
    }

    static void promise10_ofOneTokenTheLeastKindCounts() {
        Check.courtFault("case ?", 1, 5);
        Check.courtFault("odds 99999;", 1, 5);
        Check.courtFault("bed 99999;", 1, 4);
        Check.courtFault("bed 100;", 2, 4);
        Check.courtFault("case a weight 1;case a weight a;", 3, 21);
    }
}
