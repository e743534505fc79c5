/** Boundary cases of which CASE it is: promises 41 to 44. */
final class CaseBounds {
    private static final int NONE = SaffronCourt.NONE;

    private CaseBounds() {
    }

    /** The small court with numbers told in tray 0. */
    private static SaffronCourt told(long... numbers) {
        return toldIn(Scenes.small(), numbers);
    }

    private static SaffronCourt toldIn(SaffronCourt x, long... numbers) {
        x.tray(0, 3, numbers.length);
        for (int i = 0; i < numbers.length; i++) {
            x.write(0, i, numbers[i]);
        }
        return x;
    }

    /** So many numbers, by twos that the claim that is true of none is not true. */
    private static SaffronCourt toldMany(int many) {
        long[] numbers = new long[many];
        for (int i = 0; i < many; i += 2) {
            numbers[i] = 3;
        }
        return told(numbers);
    }

    private static long oddsOfFirst(SaffronCourt x, int tray, int n) {
        return x.oddsThat(tray, n, 0) ? 1 : NONE;
    }

    private interface Fit {
        long of(SaffronCourt x, int tray, int n);
    }

    // All four calls ask for the tray and n alike.

    private static void trays(Fit fit) {
        Boundaries.outside(() -> toldMany(4), "tray", 0, 3, (x, v) -> fit.of(x, v, 0));
        SaffronCourt x = Scenes.small();
        x.tray(3, 0, 0);
        fit.of(x, 3, 0);
        Check.due("the last tray STATUS", x.status(), 0);
    }

    private static void twos(Fit fit) {
        Boundaries.range(() -> toldMany(60), "n", 0, 20, (x, v) -> fit.of(x, 0, v));
    }

    private static void missing(Fit fit) {
        Boundaries.refused(() -> toldMany(4), "missing, none asked", x -> fit.of(x, 1, 0), 2);
        Boundaries.refused(() -> toldMany(4), "missing, all asked", x -> fit.of(x, 3, 20), 2);
    }

    private static void tooFew(Fit fit) {
        Boundaries.refused(() -> toldMany(0), "none of one two", x -> fit.of(x, 0, 1), 3);
        Boundaries.refused(() -> toldMany(1), "half of one two", x -> fit.of(x, 0, 1), 3);
        Boundaries.refused(() -> toldMany(39), "one fewer than twenty twos", x -> fit.of(x, 0, 20), 3);
        for (int many : new int[] {2, 40}) {
            SaffronCourt x = toldMany(many);
            fit.of(x, 0, many / 2);
            Check.due("just enough STATUS", x.status(), 0);
        }
    }

    private static void cantBe(Fit fit) {
        long wrap = 1L << 32;
        long[][] rows = {{-1, 0}, {4, 0}, {0, -1}, {0, 2}, {wrap, 0}, {0, wrap}, {0, wrap + 1}, {Long.MIN_VALUE, 0},
            {0, Long.MAX_VALUE}};
        for (long[] row : rows) {
            Boundaries.refused(() -> told(3, 0, row[0], row[1]), row[0] + " " + row[1], x -> fit.of(x, 0, 2), 5);
            SaffronCourt x = told(3, 0, row[0], row[1]);
            fit.of(x, 0, 1);
            Check.due("it is not asked for STATUS", x.status(), 0);
        }
        SaffronCourt x = told(3, 0, 0, 1);
        fit.of(x, 0, 2);
        Check.due("the first claim, and 1 STATUS", x.status(), 0);
    }

    private static void inOrder(Fit fit) {
        Boundaries.refused(() -> told(9, 9), "1 ahead of 2", x -> fit.of(x, 1, 21), 1);
        Boundaries.refused(() -> told(9, 9), "1 ahead of 3", x -> fit.of(x, 0, 21), 1);
        Boundaries.refused(() -> told(9, 9, 9), "3 ahead of 5", x -> fit.of(x, 0, 2), 3);
        Boundaries.refused(() -> told(0, 1, 0, 0, 9, 9), "5 ahead of 6", x -> fit.of(x, 0, 3), 5);
    }

    private static void noneFit(Fit fit) {
        Boundaries.refused(() -> told(0, 1, 0, 0), "none fit", x -> fit.of(x, 0, 2), 6);
        Boundaries.refused(() -> told(3, 1), "true of none", x -> fit.of(x, 0, 1), 6);
    }

    // ---- fits

    static void promise41_trays0To3AreThere() {
        trays(SaffronCourt::fits);
    }

    static void promise41_0To20TwosAreTaken() {
        twos(SaffronCourt::fits);
    }

    static void promise41_aMissingTrayIs2() {
        missing(SaffronCourt::fits);
    }

    static void promise41_tooFewNumbersAre3() {
        tooFew(SaffronCourt::fits);
    }

    static void promise41_aNumberThatCantBeIs5() {
        cantBe(SaffronCourt::fits);
    }

    static void promise41_theFirstStatusThatHolds() {
        inOrder(SaffronCourt::fits);
    }

    static void promise41_withoutClaimsEachTwoIs5() {
        Boundaries.refused(() -> toldIn(Check.courtOf("case a weight 1;"), 0, 0), "no claims", x -> x.fits(0, 1), 5);
    }

    static void promise41_byNoTwosAllFit() {
        Boundaries.asked(() -> told(9, 9), "all four", x -> x.fits(0, 0), 15);
        Boundaries.asked(() -> toldIn(Scenes.full()), "all eight", x -> x.fits(0, 0), 255);
        Boundaries.asked(() -> toldIn(new SaffronCourt()), "of nothing", x -> x.fits(0, 0), 0);
    }

    static void promise41_maybeTheEmptySet() {
        Boundaries.asked(() -> told(0, 1, 0, 0), "true and not true", x -> x.fits(0, 2), 0);
        Boundaries.asked(() -> told(3, 1), "true of none", x -> x.fits(0, 1), 0);
    }

    static void promise41_theTwentiethTwoCounts() {
        SaffronCourt x = toldMany(40);
        x.write(0, 38, 0);
        x.write(0, 39, 1);
        Check.due("by nineteen", x, x.fits(0, 19), 15, 0);
        Check.due("by twenty", x, x.fits(0, 20), 3, 0);
    }

    static void promise41_theSameToldTwiceIsTheSame() {
        Boundaries.asked(() -> told(0, 1, 0, 1), "twice", x -> x.fits(0, 2), 3);
    }

    // ---- likely

    static void promise42_trays0To3AreThere() {
        trays(SaffronCourt::likely);
    }

    static void promise42_0To20TwosAreTaken() {
        twos(SaffronCourt::likely);
    }

    static void promise42_aMissingTrayIs2() {
        missing(SaffronCourt::likely);
    }

    static void promise42_tooFewNumbersAre3() {
        tooFew(SaffronCourt::likely);
    }

    static void promise42_aNumberThatCantBeIs5() {
        cantBe(SaffronCourt::likely);
    }

    static void promise42_theFirstStatusThatHolds() {
        inOrder(SaffronCourt::likely);
    }

    static void promise42_noneFitIs6() {
        noneFit(SaffronCourt::likely);
        Boundaries.refused(() -> toldIn(new SaffronCourt()), "of nothing", x -> x.likely(0, 0), 6);
    }

    static void promise42_theMostWeightOfThoseThatFit() {
        Boundaries.asked(() -> told(0, 1), "of a and b", x -> x.likely(0, 0), 3);
        Boundaries.asked(() -> told(0, 1), "of a and b", x -> x.likely(0, 1), 1);
        Boundaries.asked(() -> told(0, 1, 1, 1), "of a alone", x -> x.likely(0, 2), 0);
    }

    static void promise42_ofSeveralTheFirst() {
        Boundaries.asked(() -> toldIn(Scenes.full()), "all alike", x -> x.likely(0, 0), 0);
        SaffronCourt x = told();
        x.weigh(1, 20);
        x.weigh(2, 20);
        Check.due("two alike", x, x.likely(0, 0), 1, 0);
    }

    // ---- oddsThat

    static void promise43_trays0To3AreThere() {
        trays(CaseBounds::oddsOfFirst);
    }

    static void promise43_0To20TwosAreTaken() {
        twos(CaseBounds::oddsOfFirst);
    }

    static void promise43_aMissingTrayIs2() {
        missing(CaseBounds::oddsOfFirst);
    }

    static void promise43_tooFewNumbersAre3() {
        tooFew(CaseBounds::oddsOfFirst);
    }

    static void promise43_aNumberThatCantBeIs5() {
        cantBe(CaseBounds::oddsOfFirst);
    }

    static void promise43_theFirstStatusThatHolds() {
        inOrder(CaseBounds::oddsOfFirst);
        Boundaries.denied(() -> told(9, 9), "no such case ahead of 2", x -> x.oddsThat(1, 0, 4), 1);
        Boundaries.denied(() -> told(9, 9), "no such case ahead of 3", x -> x.oddsThat(0, 2, 4), 1);
        Boundaries.denied(() -> told(9, 9), "no such case ahead of 5", x -> x.oddsThat(0, 1, -1), 1);
        Boundaries.denied(() -> told(3, 1), "no such case ahead of 6", x -> x.oddsThat(0, 1, 4), 1);
    }

    static void promise43_casesThatAreThere() {
        Boundaries.rangeDone(() -> told(), "case", 0, 3, (x, v) -> x.oddsThat(0, 0, v));
        Boundaries.rangeDone(() -> toldIn(Scenes.full()), "case of eight", 0, 7, (x, v) -> x.oddsThat(0, 0, v));
        Boundaries.denied(() -> toldIn(new SaffronCourt()), "no cases", x -> x.oddsThat(0, 0, 0), 1);
    }

    static void promise43_noneFitIs6() {
        noneFit(CaseBounds::oddsOfFirst);
    }

    static void promise43_0OfOthersAnd1OfOneAlone() {
        Boundaries.told(() -> told(0, 1, 1, 1), "a alone", x -> x.oddsThat(0, 2, 0), 1, 1);
        for (int which = 1; which < 4; which++) {
            int w = which;
            Boundaries.told(() -> told(0, 1, 1, 1), "another", x -> x.oddsThat(0, 2, w), 0, 1);
        }
    }

    static void promise43_itsWeightByThatOfAllThatFit() {
        Boundaries.told(() -> told(), "d of all", x -> x.oddsThat(0, 0, 3), 2, 5);
        Boundaries.told(() -> toldIn(Scenes.full()), "one of eight", x -> x.oddsThat(0, 0, 7), 1, 8);
        SaffronCourt x = toldIn(Check.courtOf(Check.times("case # weight 20;", 7) + "case h weight 1;"));
        Check.done("the lightest", x, x.oddsThat(0, 0, 7));
        Check.fraction("the lightest", x, 1, 141);
    }

    // ---- next

    private static SaffronCourt halved(long... numbers) {
        return toldIn(Check.courtOf("bed;" + Check.times("case # weight 1;", 4)
            + "claim k at 0 of a b c d;claim l at 0 of a;claim m at 0 of b c;claim n at 0 of a b;"), numbers);
    }

    static void promise44_trays0To3AreThere() {
        trays(SaffronCourt::next);
    }

    static void promise44_0To20TwosAreTaken() {
        twos(SaffronCourt::next);
    }

    static void promise44_aMissingTrayIs2() {
        missing(SaffronCourt::next);
    }

    static void promise44_tooFewNumbersAre3() {
        tooFew(SaffronCourt::next);
    }

    static void promise44_aNumberThatCantBeIs5() {
        cantBe(SaffronCourt::next);
    }

    static void promise44_theFirstStatusThatHolds() {
        inOrder(SaffronCourt::next);
    }

    static void promise44_fewerThanTwoFitIs6() {
        noneFit(SaffronCourt::next);
        Boundaries.refused(() -> told(0, 1, 1, 1), "one fits", x -> x.next(0, 2), 6);
        Boundaries.refused(() -> toldIn(new SaffronCourt()), "of nothing", x -> x.next(0, 0), 6);
    }

    static void promise44_noClaimPartsThemIs6() {
        Boundaries.refused(() -> toldIn(Check.courtOf("bed;case a weight 1;case b weight 1;claim k at 0 of;claim l at 0 of a b;")),
            "all or none", x -> x.next(0, 0), 6);
        Boundaries.refused(() -> toldIn(Check.courtOf("case a weight 1;case b weight 1;")), "no claims", x -> x.next(0, 0), 6);
        SaffronCourt x = halved(1, 0, 3, 0);
        Check.due("m parts c and d", x, x.next(0, 2), 2, 0);
        x.teach(2, 3, true);
        Check.refused("it is true of both", x, x.next(0, 2), 6);
    }

    static void promise44_theGreaterNumberIsTheLeastOfSeveralTheFirst() {
        Boundaries.asked(() -> halved(), "two and two, not one and three", x -> x.next(0, 0), 2);
        Boundaries.asked(() -> halved(1, 0), "of b, c, d as good", x -> x.next(0, 1), 2);
        Boundaries.asked(() -> halved(3, 1), "of a and b", x -> x.next(0, 1), 1);
    }

    static void promise44_theFirstAndTheLastOfSevenClaims() {
        Boundaries.asked(() -> toldIn(Scenes.full()), "the first halves all", x -> x.next(0, 0), 0);
        SaffronCourt x = toldIn(Check.courtOf("bed;case a weight 1;case b weight 1;" + Check.times("claim k# at 0 of;", 6)
            + "claim l at 0 of b;"));
        Check.due("the last alone parts them", x, x.next(0, 0), 6, 0);
    }

    static void promise44_aClaimThatWasTakenBackPartsNothing() {
        SaffronCourt x = toldIn(Check.courtOf("bed;case a weight 1;case b weight 1;claim k at 0 of;"));
        x.mark();
        x.think(1, 0, 1);
        Check.due("what was thought parts them", x, x.next(0, 0), 1, 0);
        x.undo();
        Check.refused("it is gone", x, x.next(0, 0), 6);
    }

    static void promise44_twoThatFitAreParted() {
        Boundaries.asked(() -> halved(2, 1), "b and c", x -> x.next(0, 1), 3);
    }
}
