/** Boundary cases of what is parted: promises 29 to 36. */
final class PartBounds {
    private static final int ALL = 255;

    private PartBounds() {
    }

    // ---- partOf, couples, parting, barren

    static void promise29_casesThatAreThere() {
        Boundaries.range(Scenes::full, "case", 0, 7, SaffronCourt::partOf);
        Boundaries.range(Scenes::rich, "case of four", 0, 3, SaffronCourt::partOf);
        Boundaries.refused(SaffronCourt::new, "no cases", x -> x.partOf(0), 1);
    }

    static void promise29_allAreInOnePartIfNoneIsMade() {
        for (int which = 0; which < 8; which++) {
            int w = which;
            Boundaries.asked(Scenes::full, "part of " + w, x -> x.partOf(w), ALL);
        }
    }

    static void promise29_eachIsAloneIfAllArePartedAndInItsOwnPart() {
        for (int which = 0; which < 8; which++) {
            int w = which;
            Boundaries.asked(Scenes::allMade, "part of " + w, x -> x.partOf(w), 1 << w);
        }
    }

    static void promise29_onlyClaimsThatAreMadePart() {
        SaffronCourt x = Scenes.full();
        x.make(5);
        Check.due("alone", x, x.partOf(0), 1, 0);
        Check.due("the others", x, x.partOf(7), 254, 0);
        x.recant(5);
        Check.due("all again", x, x.partOf(7), ALL, 0);
    }

    static void promise30_noneOrOneCaseMakesNoCouple() {
        Boundaries.asked(SaffronCourt::new, "no case", SaffronCourt::couples, 0);
        Boundaries.asked(Scenes::oneCase, "one case", SaffronCourt::couples, 0);
    }

    static void promise30_oneCoupleOfTwoCases() {
        Boundaries.asked(() -> Check.courtOf("case a weight 1;case b weight 1;"), "two cases", SaffronCourt::couples, 1);
    }

    static void promise30_28OfEightCasesDownTo0() {
        Boundaries.asked(Scenes::full, "one part", SaffronCourt::couples, 28);
        Boundaries.asked(Scenes::allMade, "all parted", SaffronCourt::couples, 0);
        SaffronCourt x = Scenes.full();
        x.make(0);
        Check.due("two fours", x, x.couples(), 12, 0);
        x.make(5);
        Check.due("one, three and four", x, x.couples(), 9, 0);
    }

    static void promise31_casesThatAreThere() {
        Boundaries.range(Scenes::full, "which", 0, 7, (x, v) -> x.parting(v, 3));
        Boundaries.range(Scenes::full, "other", 0, 7, (x, v) -> x.parting(3, v));
        Boundaries.refused(SaffronCourt::new, "no cases", x -> x.parting(0, 1), 1);
    }

    static void promise31_oneAndItselfIs1() {
        for (int which = 0; which < 8; which++) {
            int w = which;
            Boundaries.refused(Scenes::full, "itself " + w, x -> x.parting(w, w), 1);
        }
        Boundaries.refused(Scenes::rich, "one that is not there", x -> x.parting(4, 4), 1);
    }

    static void promise31_noneUpToAllClaimsPartTwo() {
        Boundaries.asked(Scenes::unparted, "none", x -> x.parting(1, 2), 0);
        SaffronCourt x = Check.courtOf("bed;case a weight 1;case b weight 1;" + Check.times("claim k# at 0 of a;", 7));
        Check.due("all", x, x.parting(0, 1), 127, 0);
        Check.due("the other way", x, x.parting(1, 0), 127, 0);
    }

    static void promise31_madeOrNot() {
        Boundaries.asked(Scenes::full, "not made", x -> x.parting(0, 7), 1 + 2 + 4 + 32 + 64);
        Boundaries.asked(Scenes::allMade, "made", x -> x.parting(0, 7), 1 + 2 + 4 + 32 + 64);
    }

    static void promise32_noneOfNoClaims() {
        Boundaries.asked(SaffronCourt::new, "no claims", SaffronCourt::barren, 0);
    }

    static void promise32_allWithoutTwoCasesToPart() {
        Boundaries.asked(Scenes::oneCase, "one case", SaffronCourt::barren, 3);
        Boundaries.asked(() -> Check.courtOf("bed;" + Check.times("claim # at 0 of;", 7)), "no case", SaffronCourt::barren, 127);
    }

    static void promise32_trueOfNoneAndOfAll() {
        Boundaries.asked(Scenes::full, "two of them", SaffronCourt::barren, 8 + 16);
    }

    static void promise32_oneThatIsMadeIsNotBarren() {
        Boundaries.asked(Scenes::allMade, "all made", SaffronCourt::barren, 0);
        SaffronCourt x = Scenes.full();
        x.make(3);
        Check.due("the other one", x, x.barren(), 16, 0);
        x.make(0);
        x.make(1);
        x.make(2);
        Check.due("all that are left", x, x.barren(), 16 + 32 + 64, 0);
    }

    // ---- most, first

    static void promise33_nIs0To3() {
        Boundaries.range(Scenes::rich, "n", 0, 3, SaffronCourt::most);
    }

    static void promise33_of0ClaimsNothing() {
        Boundaries.asked(Scenes::full, "most(0)", x -> x.most(0), 0);
    }

    static void promise33_ofACourtOfNothing() {
        Boundaries.asked(SaffronCourt::new, "most(3)", x -> x.most(3), 0);
    }

    static void promise33_threeThatHalveAll() {
        int[] due = {0, 12, 24, 36};
        for (int n = 0; n <= 3; n++) {
            int k = n;
            Boundaries.asked(Scenes::full, "most(" + k + ")", x -> x.most(k), due[k]);
        }
    }

    static void promise33_fewerClaimsThanN() {
        Boundaries.asked(Scenes::unparted, "two claims", x -> x.most(3), 3);
    }

    static void promise33_ofThoseThatAreNotMade() {
        Boundaries.asked(Scenes::allMade, "all made", x -> x.most(3), 0);
        SaffronCourt x = Scenes.full();
        x.make(0);
        Check.due("one is made", x, x.most(3), 24, 0);
    }

    /** The last claim yields the most if it comes first. */
    private static SaffronCourt lastFirst() {
        return Check.courtOf("bed;" + Check.times("case # weight 1;", 4) + "claim k at 0 of a;claim l at 0 of a b;");
    }

    static void promise33_theLastClaimMayComeFirst() {
        Boundaries.asked(PartBounds::lastFirst, "by one", x -> x.most(1), 6);
        Boundaries.asked(PartBounds::lastFirst, "by two", x -> x.most(2), 9);
    }

    static void promise34_theLastClaimMayComeFirst() {
        Boundaries.asked(PartBounds::lastFirst, "the first of two", x -> x.first(2, 0), 1);
        Boundaries.asked(PartBounds::lastFirst, "the second of two", x -> x.first(2, 1), 0);
    }

    static void promise33_byYieldsAlsoWhereTheBedIsFull() {
        Boundaries.asked(Scenes::brimming, "a full bed", x -> x.most(1), 12);
    }

    static void promise34_nIs0To3() {
        Boundaries.outside(Scenes::rich, "n", 0, 3, (x, v) -> x.first(v, 0));
        Boundaries.asked(Scenes::full, "n 3", x -> x.first(3, 0), 0);
        Boundaries.refused(Scenes::full, "n 0", x -> x.first(0, 0), 6);
    }

    static void promise34_kBelow0Is1() {
        for (int k : new int[] {-1, Integer.MIN_VALUE}) {
            Boundaries.refused(Scenes::rich, "k " + k, x -> x.first(3, k), 1);
            Boundaries.refused(Scenes::rich, "k " + k + " of 0", x -> x.first(0, k), 1);
        }
    }

    static void promise34_kBehindTheRowIs6() {
        Boundaries.asked(Scenes::full, "the last", x -> x.first(3, 2), 2);
        for (int k : new int[] {3, 4, Integer.MAX_VALUE}) {
            Boundaries.refused(Scenes::full, "k " + k, x -> x.first(3, k), 6);
        }
        Boundaries.asked(Scenes::full, "the last of two", x -> x.first(2, 1), 1);
        Boundaries.refused(Scenes::full, "behind two", x -> x.first(2, 2), 6);
    }

    static void promise34_1IsAheadOf6() {
        Boundaries.refused(Scenes::full, "n 4", x -> x.first(4, 9), 1);
        Boundaries.refused(Scenes::full, "k -1", x -> x.first(0, -1), 1);
    }

    static void promise34_aRowThatEndsComesAheadOfOneThatGoesOn() {
        Boundaries.asked(Scenes::unparted, "the first", x -> x.first(3, 0), 0);
        Boundaries.refused(Scenes::unparted, "no second for nothing", x -> x.first(3, 1), 6);
        Boundaries.refused(Scenes::oneCase, "none for nothing", x -> x.first(3, 0), 6);
        Boundaries.refused(Scenes::allMade, "none is left", x -> x.first(3, 0), 6);
    }

    static void promise34_ofSeveralTheFirstByClaimsOneByOne() {
        SaffronCourt x = Check.courtOf("bed;case a weight 1;case b weight 1;claim k at 0 of;claim l at 0 of a;claim m at 0 of b;");
        Check.due("by one, the first that yields", x, x.first(1, 0), 1, 0);
        Check.due("by two, one for nothing first", x, x.first(2, 0), 0, 0);
        Check.due("by two, then the first that yields", x, x.first(2, 1), 1, 0);
        Check.due("by three", x, x.first(3, 0), 0, 0);
        Check.due("by three", x, x.first(3, 1), 1, 0);
        Check.refused("by three it ends", x, x.first(3, 2), 6);
    }

    static void promise34_noneThatIsMade() {
        SaffronCourt x = Scenes.full();
        x.make(0);
        Check.due("the first", x, x.first(2, 0), 1, 0);
        Check.due("the second", x, x.first(2, 1), 2, 0);
    }

    // ---- fewest, fewestSet

    static void promise35_setsOfCasesThatAreThere() {
        Boundaries.range(Scenes::full, "set", 0, ALL, SaffronCourt::fewest);
        Boundaries.outside(Scenes::rich, "set of four", 0, 15, SaffronCourt::fewest);
        Boundaries.refused(Scenes::rich, "one that is not there beside another", x -> x.fewest(17), 1);
        Boundaries.refused(SaffronCourt::new, "no cases", x -> x.fewest(1), 1);
    }

    static void promise35_ofNoneOrOneCase0() {
        Boundaries.asked(SaffronCourt::new, "of nothing", x -> x.fewest(0), 0);
        Boundaries.asked(Scenes::full, "of none", x -> x.fewest(0), 0);
        for (int which = 0; which < 8; which++) {
            int set = 1 << which;
            Boundaries.asked(Scenes::full, "of " + set, x -> x.fewest(set), 0);
        }
    }

    static void promise35_notByAllIs6() {
        Boundaries.refused(Scenes::unparted, "b and c", x -> x.fewest(6), 6);
        Boundaries.refused(Scenes::unparted, "all", x -> x.fewest(7), 6);
        Boundaries.refused(() -> Check.courtOf("case a weight 1;case b weight 1;"), "no claims", x -> x.fewest(3), 6);
        Boundaries.asked(Scenes::unparted, "a and b", x -> x.fewest(3), 1);
    }

    static void promise35_upToAllSeven() {
        Boundaries.asked(Scenes::oneByOne, "all eight", x -> x.fewest(ALL), 7);
        Boundaries.asked(Scenes::full, "three halve all", x -> x.fewest(ALL), 3);
        Boundaries.asked(Scenes::allMade, "made or not", x -> x.fewest(ALL), 3);
    }

    static void promise36_setsOfCasesThatAreThere() {
        Boundaries.range(Scenes::full, "set", 0, ALL, SaffronCourt::fewestSet);
        Boundaries.outside(Scenes::rich, "set of four", 0, 15, SaffronCourt::fewestSet);
        Boundaries.refused(Scenes::rich, "one that is not there beside another", x -> x.fewestSet(17), 1);
    }

    static void promise36_ofNoneOrOneCaseTheEmptySet() {
        Boundaries.asked(SaffronCourt::new, "of nothing", x -> x.fewestSet(0), 0);
        Boundaries.asked(Scenes::full, "of the last", x -> x.fewestSet(128), 0);
    }

    static void promise36_notByAllIs6() {
        Boundaries.refused(Scenes::unparted, "b and c", x -> x.fewestSet(6), 6);
        Boundaries.refused(Scenes::unparted, "all", x -> x.fewestSet(7), 6);
    }

    static void promise36_upToAllSeven() {
        Boundaries.asked(Scenes::oneByOne, "all eight", x -> x.fewestSet(ALL), 127);
    }

    static void promise36_ofSeveralTheLeastAsANumber() {
        Boundaries.asked(Scenes::full, "a and h", x -> x.fewestSet(129), 1);
        Boundaries.asked(Scenes::full, "g and h", x -> x.fewestSet(192), 4);
        SaffronCourt x = Check.courtOf("bed;case a weight 1;case b weight 1;case c weight 1;"
            + "claim k at 0 of c;claim l at 0 of b;claim m at 0 of a;");
        Check.due("three sets of two", x, x.fewestSet(7), 3, 0);
    }

    static void promise36_fewerComeAheadOfTheLeastNumber() {
        SaffronCourt x = Check.courtOf("bed;" + Check.times("case # weight 1;", 4)
            + "claim k at 0 of a;claim l at 0 of b;claim m at 0 of c;claim n at 0 of a b;claim o at 0 of a c;");
        Check.due("two, not three", x, x.fewest(15), 2, 0);
        Check.due("their set", x, x.fewestSet(15), 24, 0);
    }
}
