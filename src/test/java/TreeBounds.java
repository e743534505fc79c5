/** Boundary cases of TREES: promises 37 to 40. */
final class TreeBounds {
    private static final int ALL = 255;

    private TreeBounds() {
    }

    /** Each way to ask for a TREE: the set must be there and not empty. */
    private static void sets(Boundaries.AsksBy ask) {
        Boundaries.outside(Scenes::full, "set", 1, ALL, ask);
        Boundaries.outside(Scenes::rich, "set of four", 1, 15, ask);
        Boundaries.refused(Scenes::rich, "one that is not there beside another", x -> ask.of(x, 17), 1);
        Boundaries.refused(SaffronCourt::new, "the empty set of nothing", x -> ask.of(x, 0), 1);
        Boundaries.refused(SaffronCourt::new, "no cases", x -> ask.of(x, 1), 1);
    }

    private static void noTree(Boundaries.AsksBy ask) {
        Boundaries.refused(Scenes::unparted, "b and c", x -> ask.of(x, 6), 6);
        Boundaries.refused(Scenes::unparted, "all", x -> ask.of(x, 7), 6);
        Boundaries.refused(() -> Check.courtOf("case a weight 1;case b weight 1;"), "no claims", x -> ask.of(x, 3), 6);
    }

    private static void ofOneCase(Boundaries.AsksBy ask, boolean isThere) {
        for (int which = 0; which < 8; which++) {
            int set = 1 << which;
            if (isThere) {
                Boundaries.asked(Scenes::full, "of one case", x -> ask.of(x, set), 0);
            } else {
                Boundaries.refused(Scenes::full, "of one case", x -> ask.of(x, set), 6);
            }
        }
    }

    static void promise37_setsThatAreThereAndNotEmpty() {
        sets(SaffronCourt::deep);
    }

    static void promise37_noTreeIs6() {
        noTree(SaffronCourt::deep);
    }

    static void promise37_ofOneCase0() {
        ofOneCase(SaffronCourt::deep, true);
        Boundaries.asked(() -> Check.courtOf("case a weight 1;"), "without claims", x -> x.deep(1), 0);
    }

    static void promise37_ofTwoCases1() {
        Boundaries.asked(Scenes::unparted, "a and b", x -> x.deep(3), 1);
        Boundaries.asked(Scenes::unparted, "a and c", x -> x.deep(5), 1);
    }

    static void promise37_ofEightCases3To7() {
        Boundaries.asked(Scenes::full, "halved", x -> x.deep(ALL), 3);
        Boundaries.asked(Scenes::oneByOne, "one by one", x -> x.deep(ALL), 7);
        Boundaries.asked(Scenes::oneByOne, "seven of them", x -> x.deep(127), 6);
    }

    static void promise37_madeOrNot() {
        SaffronCourt x = Scenes.full();
        x.make(0);
        x.make(1);
        Check.due("made", x, x.deep(ALL), 3, 0);
    }

    static void promise38_setsThatAreThereAndNotEmpty() {
        sets(SaffronCourt::askDeep);
    }

    static void promise38_noTreeIs6() {
        noTree(SaffronCourt::askDeep);
    }

    static void promise38_ofOneCaseIs6() {
        ofOneCase(SaffronCourt::askDeep, false);
    }

    static void promise38_ofSeveralTheLeast() {
        Boundaries.asked(Scenes::full, "of all", x -> x.askDeep(ALL), 0);
        Boundaries.asked(Scenes::full, "of g and h", x -> x.askDeep(192), 2);
        Boundaries.asked(Scenes::unparted, "a and b", x -> x.askDeep(3), 0);
        Boundaries.asked(Scenes::oneByOne, "of the last two", x -> x.askDeep(192), 6);
    }

    static void promise38_theLeastDeepNotTheFirstThatParts() {
        SaffronCourt x = Check.courtOf("bed;" + Check.times("case # weight 1;", 4)
            + "claim k at 0 of a;claim l at 0 of a b;claim m at 0 of a c;");
        Check.due("deep", x, x.deep(15), 2, 0);
        Check.due("ask", x, x.askDeep(15), 1, 0);
        Check.due("of three either will do", x, x.askDeep(7), 0, 0);
    }

    static void promise39_setsThatAreThereAndNotEmpty() {
        sets(SaffronCourt::dear);
    }

    static void promise39_noTreeIs6() {
        noTree(SaffronCourt::dear);
    }

    static void promise39_ofOneCase0() {
        ofOneCase(SaffronCourt::dear, true);
        Boundaries.asked(() -> Check.courtOf("case a weight 20;"), "without claims", x -> x.dear(1), 0);
    }

    static void promise39_ofTwoCasesTheLeastCostForBoth() {
        Boundaries.asked(Scenes::unparted, "a and b", x -> x.dear(3), 2 + 3);
        SaffronCourt x = Scenes.unparted();
        x.teach(1, 0, true);
        Check.due("by the dear one alone", x, x.dear(3), 5 * (2 + 3), 0);
    }

    static void promise39_theDearestThereCanBe() {
        Boundaries.asked(Scenes::oneByOne, "one by one", x -> x.dear(ALL), 9 * 20 * (8 + 7 + 6 + 5 + 4 + 3 + 2));
    }

    static void promise39_bothSidesAreAsked() {
        Boundaries.asked(Scenes::full, "three for each of eight", x -> x.dear(ALL), 8 * 3);
        Boundaries.asked(Scenes::full, "two for each of the first four", x -> x.dear(15), 4 * 2);
    }

    static void promise39_byWeightsAsTheyAreNow() {
        SaffronCourt x = Scenes.unparted();
        x.weigh(0, 20);
        x.weigh(1, 1);
        Check.due("a and b", x, x.dear(3), 21, 0);
    }

    static void promise40_setsThatAreThereAndNotEmpty() {
        sets(SaffronCourt::askDear);
    }

    static void promise40_noTreeIs6() {
        noTree(SaffronCourt::askDear);
    }

    static void promise40_ofOneCaseIs6() {
        ofOneCase(SaffronCourt::askDear, false);
    }

    static void promise40_ofSeveralTheLeast() {
        Boundaries.asked(Scenes::full, "a and h", x -> x.askDear(129), 0);
        Boundaries.asked(Scenes::full, "g and h", x -> x.askDear(192), 2);
        Boundaries.asked(Scenes::oneByOne, "all as dear", x -> x.askDear(ALL), 0);
    }

    static void promise40_theLeastDearNotTheFirstThatParts() {
        Boundaries.asked(Scenes::unparted, "a and b", x -> x.askDear(3), 1);
        SaffronCourt x = Check.courtOf("bed;case a weight 1;case b weight 1;case c weight 20;"
            + "claim k at 0 of a;claim l at 0 of c;");
        Check.due("the heavy one is asked first", x, x.askDear(7), 1, 0);
        Check.due("so dear", x, x.dear(7), 22 + 2, 0);
        Check.due("deep is another matter", x, x.askDeep(7), 0, 0);
    }
}
