/** Boundary cases of what is told of a COURT: promises 13 to 17. */
final class ToldBounds {
    private ToldBounds() {
    }

    /** Six beds with 9,999 crocuses each. */
    private static SaffronCourt sixFullBeds() {
        StringBuilder claims = new StringBuilder();
        StringBuilder terms = new StringBuilder("loop 24;");
        for (int bed = 0; bed < 6; bed++) {
            char letter = (char) ('a' + bed);
            claims.append("claim k").append(letter).append(" at ").append(bed).append(" of ca cb cc cd;");
            terms.append("make k").append(letter).append(";forget;");
        }
        SaffronCourt x = Scenes.withTerms(Check.times("bed;", 6) + Check.times("case c# weight 1;", 8) + claims
            + "scholar s at 0;", terms.append("end;").toString());
        for (int i = 0; i < 35; i++) {
            x.live(0);
        }
        return x;
    }

    static void promise13_whatIs0To10() {
        Boundaries.range(Scenes::rich, "told", 0, 10, SaffronCourt::told);
    }

    static void promise13_ofACourtOfNothing() {
        SaffronCourt x = new SaffronCourt();
        int[] due = {0, 0, 0, 0, 8, 0, 0, 0, 0, 0, 0};
        for (int what = 0; what < due.length; what++) {
            Check.due("told " + what, x, x.told(what), due[what], 0);
        }
    }

    static void promise13_ofAFullCourt() {
        SaffronCourt x = Scenes.full();
        int[] due = {6, 8, 7, 4, 8, 0, 0, 6, 0, 4, 1};
        for (int what = 0; what < due.length; what++) {
            Check.due("told " + what, x, x.told(what), due[what], 0);
        }
    }

    static void promise16_theSeventhIsAsItWasTold() {
        SaffronCourt x = Scenes.full();
        int[] due = {5, 9, 128, 3};
        for (int what = 0; what < due.length; what++) {
            Check.due("what " + what, x, x.claim(6, what), due[what], 0);
        }
        x.mark();
        x.court(0);
        x.undo();
        Check.due("its bed behind undo()", x, x.claim(6, 0), 5, 0);
    }

    static void promise17_theFourthIsAsHeWasTold() {
        SaffronCourt x = Scenes.full();
        Check.due("his bed", x, x.scholar(3, 0), 5, 0);
        Check.due("his gold", x, x.scholar(3, 1), 1, 0);
    }

    static void promise13_theSetOfAllClaimsThatAreMadeIs127() {
        SaffronCourt x = Scenes.full();
        for (int claim = 0; claim < 7; claim++) {
            x.make(claim);
            Check.due("made", x, x.told(6), (2 << claim) - 1, 0);
        }
    }

    static void promise13_partsAre0WithoutCases() {
        SaffronCourt x = Check.courtOf("bed;claim k at 0 of;");
        Check.due("parts", x, x.told(10), 0, 0);
        x.make(0);
        Check.due("parts behind a claim", x, x.told(10), 0, 0);
    }

    static void promise13_partsAreOneIfNoneIsMadeAndAsManyAsCasesAtMost() {
        SaffronCourt x = Scenes.full();
        int[] due = {2, 4, 8, 8, 8, 8, 8};
        Check.due("none made", x, x.told(10), 1, 0);
        for (int claim = 0; claim < 7; claim++) {
            x.make(claim);
            Check.due("parts", x, x.told(10), due[claim], 0);
        }
    }

    static void promise13_aClaimTrueOfNoneOrAllPartsNothing() {
        SaffronCourt x = Scenes.full();
        x.make(3);
        x.make(4);
        Check.due("parts", x, x.told(10), 1, 0);
    }

    static void promise13_allCrocusesAreSixTimes9999AtMost() {
        SaffronCourt x = sixFullBeds();
        Check.due("all crocuses", x, x.told(7), 6 * 9999, 0);
    }

    static void promise13_allShamsAreSixTimes99AtMost() {
        SaffronCourt x = Check.courtOf(Check.times("bed crocus 99 sham 99;", 6));
        x.night(9);
        Check.due("all shams", x, x.told(8), 6 * 99, 0);
    }

    static void promise13_allGoldOfFourScholars() {
        SaffronCourt x = Check.courtOf("bed;" + Check.times("scholar # at 0 gold 999;", 4));
        Check.due("all gold", x, x.told(9), 4 * 999, 0);
    }

    static void promise14_bedsThatAreThere() {
        Boundaries.range(Scenes::rich, "bed", 0, 2, (x, v) -> x.bed(v, 0));
        Boundaries.range(Scenes::full, "bed of six", 0, 5, (x, v) -> x.bed(v, 1));
    }

    static void promise14_whatIs0Or1() {
        Boundaries.range(Scenes::rich, "what", 0, 1, (x, v) -> x.bed(0, v));
    }

    static void promise14_noBeds() {
        Boundaries.refused(SaffronCourt::new, "bed(0, 0)", x -> x.bed(0, 0), 1);
    }

    static void promise14_aBedOf9999() {
        SaffronCourt x = Scenes.brimming();
        Check.due("crocuses", x, x.bed(0, 0), 9999, 0);
    }

    static void promise15_casesThatAreThere() {
        Boundaries.range(Scenes::rich, "case", 0, 3, SaffronCourt::weight);
        Boundaries.range(Scenes::full, "case of eight", 0, 7, SaffronCourt::weight);
    }

    static void promise15_noCases() {
        Boundaries.refused(SaffronCourt::new, "weight(0)", x -> x.weight(0), 1);
    }

    static void promise16_claimsThatAreThere() {
        Boundaries.range(Scenes::rich, "claim", 0, 3, (x, v) -> x.claim(v, 0));
        Boundaries.range(Scenes::full, "claim of seven", 0, 6, (x, v) -> x.claim(v, 3));
    }

    static void promise16_whatIs0To3() {
        Boundaries.range(Scenes::rich, "what", 0, 3, (x, v) -> x.claim(0, v));
    }

    static void promise16_noClaims() {
        Boundaries.refused(SaffronCourt::new, "claim(0, 0)", x -> x.claim(0, 0), 1);
    }

    static void promise16_trueOfNoneIs0OfAllIs255() {
        SaffronCourt x = Scenes.full();
        Check.due("none", x, x.claim(3, 2), 0, 0);
        Check.due("all", x, x.claim(4, 2), 255, 0);
        Check.due("the last", x, x.claim(6, 2), 128, 0);
    }

    static void promise16_yieldIs3ForEachCaseOfTheSmallerOnes() {
        SaffronCourt x = Check.courtOf("bed;" + Check.times("case # weight 1;", 8));
        int[] due = {0, 3, 6, 9, 12, 9, 6, 3, 0};
        for (int many = 0; many <= 8; many++) {
            x.mark();
            x.think((1 << many) - 1, 0, 1);
            Check.due("true of " + many, x, x.claim(0, 3), due[many], 0);
            x.undo();
        }
    }

    static void promise16_yieldOfEachPartIsAddedUp() {
        SaffronCourt x = Scenes.full();
        x.make(0);
        Check.due("halves both parts", x, x.claim(1, 3), 12, 0);
        Check.due("one of one part", x, x.claim(5, 3), 3, 0);
        x.make(1);
        x.make(2);
        for (int claim = 0; claim < 7; claim++) {
            Check.due("all are parted", x, x.claim(claim, 3), 0, 0);
        }
    }

    static void promise16_yieldIs0OfOneThatIsMade() {
        SaffronCourt x = Scenes.full();
        Check.due("not made", x, x.claim(0, 3), 12, 0);
        x.make(0);
        Check.due("made", x, x.claim(0, 3), 0, 0);
        x.recant(0);
        Check.due("recanted", x, x.claim(0, 3), 12, 0);
    }

    static void promise16_yieldIs0WithoutCases() {
        SaffronCourt x = Check.courtOf("bed;claim k at 0 of;");
        Check.due("yield", x, x.claim(0, 3), 0, 0);
    }

    static void promise16_yieldIsWholeAlsoWhereTheBedIsFull() {
        SaffronCourt x = Scenes.brimming();
        Check.due("yield", x, x.claim(0, 3), 12, 0);
    }

    static void promise17_scholarsThatAreThere() {
        Boundaries.range(Scenes::rich, "scholar", 0, 1, (x, v) -> x.scholar(v, 0));
        Boundaries.range(Scenes::full, "scholar of four", 0, 3, (x, v) -> x.scholar(v, 1));
    }

    static void promise17_whatIs0Or1() {
        Boundaries.range(Scenes::rich, "what", 0, 1, (x, v) -> x.scholar(0, v));
    }

    static void promise17_noScholars() {
        Boundaries.refused(SaffronCourt::new, "scholar(0, 0)", x -> x.scholar(0, 0), 1);
    }
}
