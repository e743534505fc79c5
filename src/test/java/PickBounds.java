/** Boundary cases of picking, games and odds: promises 45 to 51. */
final class PickBounds {
    private static final int NONE = SaffronCourt.NONE;

    private PickBounds() {
    }

    /** Six beds, and scholars at the third, the first and the last one. */
    private static SaffronCourt sixBeds() {
        return Check.courtOf("bed crocus 1;bed crocus 2;bed;bed crocus 4;bed crocus 8;bed crocus 16;"
            + "scholar s at 2;scholar t at 0;scholar u at 5;");
    }

    // ---- gather, brisk

    static void promise45_scholarsThatAreThere() {
        Boundaries.range(Scenes::full, "scholar", 0, 3, (x, v) -> x.gather(v, 1));
        Boundaries.outside(Scenes::rich, "scholar of two", 0, 1, (x, v) -> x.gather(v, 1));
        Boundaries.refused(SaffronCourt::new, "no scholars", x -> x.gather(0, 0), 1);
    }

    static void promise45_nIs0To12() {
        Boundaries.range(Scenes::rich, "n", 0, 12, (x, v) -> x.gather(0, v));
    }

    static void promise45_by0StepsHisOwnBed() {
        Boundaries.asked(PickBounds::sixBeds, "the first", x -> x.gather(1, 0), 1);
        Boundaries.asked(PickBounds::sixBeds, "an empty one", x -> x.gather(0, 0), 0);
        Boundaries.asked(PickBounds::sixBeds, "the last", x -> x.gather(2, 0), 16);
        Boundaries.asked(Scenes::brimming, "a full one", x -> x.gather(0, 0), 9999);
    }

    static void promise45_byEachNumberOfSteps() {
        int[] middle = {0, 4, 12, 28, 28, 30, 30, 31, 31, 31, 31, 31, 31};
        int[] first = {1, 3, 3, 7, 15, 31, 31, 31, 31, 31, 31, 31, 31};
        int[] last = {16, 24, 28, 28, 30, 31, 31, 31, 31, 31, 31, 31, 31};
        SaffronCourt x = sixBeds();
        for (int n = 0; n <= 12; n++) {
            Check.due("from the middle by " + n, x, x.gather(0, n), middle[n], 0);
            Check.due("from the first by " + n, x, x.gather(1, n), first[n], 0);
            Check.due("from the last by " + n, x, x.gather(2, n), last[n], 0);
        }
    }

    static void promise45_aSingleBedHasNoNextOne() {
        Boundaries.asked(() -> Check.courtOf("bed crocus 7;scholar s at 0;"), "one bed", x -> x.gather(0, 12), 7);
    }

    static void promise45_nothingToGather() {
        Boundaries.asked(() -> Check.courtOf(Check.times("bed;", 6) + "scholar s at 3;"), "none", x -> x.gather(0, 12), 0);
    }

    static void promise46_scholarsThatAreThere() {
        Boundaries.range(Scenes::full, "scholar", 0, 3, (x, v) -> x.brisk(v, 1));
        Boundaries.outside(Scenes::rich, "scholar of two", 0, 1, (x, v) -> x.brisk(v, 1));
        Boundaries.refused(SaffronCourt::new, "no scholars", x -> x.brisk(0, 0), 1);
    }

    static void promise46_nIs0To12() {
        Boundaries.range(Scenes::rich, "n", 0, 12, (x, v) -> x.brisk(0, v));
    }

    static void promise46_theFewestStepsForThat() {
        int[] middle = {0, 1, 2, 3, 3, 5, 5, 7, 7, 7, 7, 7, 7};
        int[] first = {0, 1, 1, 3, 4, 5, 5, 5, 5, 5, 5, 5, 5};
        int[] last = {0, 1, 2, 2, 4, 5, 5, 5, 5, 5, 5, 5, 5};
        SaffronCourt x = sixBeds();
        for (int n = 0; n <= 12; n++) {
            Check.due("from the middle by " + n, x, x.brisk(0, n), middle[n], 0);
            Check.due("from the first by " + n, x, x.brisk(1, n), first[n], 0);
            Check.due("from the last by " + n, x, x.brisk(2, n), last[n], 0);
        }
    }

    static void promise46_noStepForWhatLiesAtHand() {
        Boundaries.asked(() -> Check.courtOf("bed;bed crocus 7;bed;scholar s at 1;"), "his own", x -> x.brisk(0, 12), 0);
        Boundaries.asked(() -> Check.courtOf(Check.times("bed;", 6) + "scholar s at 3;"), "nothing", x -> x.brisk(0, 12), 0);
    }

    // ---- game, moveOf

    static void promise47_nIs0To4() {
        Boundaries.range(Scenes::rich, "n", 0, 4, SaffronCourt::game);
    }

    static void promise47_of0TurnsNothing() {
        Boundaries.asked(Scenes::full, "game(0)", x -> x.game(0), 0);
    }

    static void promise47_withoutClaimsThatAreNotMadeNothing() {
        Boundaries.asked(SaffronCourt::new, "of nothing", x -> x.game(4), 0);
        Boundaries.asked(Scenes::allMade, "all made", x -> x.game(4), 0);
    }

    static void promise47_whatWasTakenBackIsNoMoreInTheGame() {
        SaffronCourt x = Check.courtOf("bed;case a weight 1;case b weight 1;claim k at 0 of;");
        x.make(0);
        x.mark();
        x.think(1, 0, 1);
        for (int n = 1; n <= 4; n++) {
            Check.due("with what was thought", x, x.game(n), 3, 0);
        }
        x.undo();
        for (int n = 0; n <= 4; n++) {
            Check.due("without it", x, x.game(n), 0, 0);
            Check.due("nor is there more", x, x.most(Math.min(3, n)), 0, 0);
        }
        Check.refused("no move", x, x.moveOf(4), 6);
    }

    static void promise47_byTurnsTheFirstFirst() {
        int[] due = {0, 12, 0, 12};
        for (int n = 0; n <= 3; n++) {
            int k = n;
            Boundaries.asked(() -> Check.courtOf("bed;" + Check.times("case # weight 1;", 8)
                + "claim ka at 0 of a b c d;claim kb at 0 of a b e f;claim kc at 0 of a c e g;"), "game(" + k + ")",
                x -> x.game(k), due[k]);
        }
    }

    static void promise47_byYieldsAlsoWhereTheBedIsFull() {
        Boundaries.asked(Scenes::brimming, "a full bed", x -> x.game(1), 12);
    }

    static void promise47_statusTellsNoneFromANumber() {
        SaffronCourt x = Scenes.full();
        Check.due("refused", x, x.game(5), NONE, 1);
        Check.due("answered", x, x.game(2), 0, 0);
    }

    static void promise48_nIs1To4AndNot0() {
        Boundaries.range(Scenes::full, "n", 1, 4, SaffronCourt::moveOf);
    }

    static void promise48_1IsAheadOf6() {
        Boundaries.refused(Scenes::allMade, "n 0", x -> x.moveOf(0), 1);
        Boundaries.refused(Scenes::allMade, "n 5", x -> x.moveOf(5), 1);
    }

    static void promise48_noneIs6() {
        for (int n = 1; n <= 4; n++) {
            int k = n;
            Boundaries.refused(Scenes::allMade, "all made " + k, x -> x.moveOf(k), 6);
            Boundaries.refused(SaffronCourt::new, "of nothing " + k, x -> x.moveOf(k), 6);
        }
    }

    static void promise48_noneComesLast() {
        for (int n = 1; n <= 4; n++) {
            int k = n;
            Boundaries.asked(Scenes::oneCase, "for nothing " + k, x -> x.moveOf(k), 0);
        }
        SaffronCourt x = Scenes.oneCase();
        x.make(0);
        Check.due("the one that is left", x, x.moveOf(4), 1, 0);
    }

    static void promise48_ofAllThatAreAsGoodTheFirst() {
        SaffronCourt x = Check.courtOf("bed;case a weight 1;case b weight 1;claim k at 0 of;claim l at 0 of a;claim m at 0 of b;");
        Check.due("by one turn the first that yields", x, x.moveOf(1), 1, 0);
        Check.due("by two turns what lets the other have nothing", x, x.moveOf(2), 1, 0);
    }

    // ---- blind

    static void promise49_bedsThatAreThere() {
        Boundaries.rangeDone(Scenes::full, "bed", 0, 5, (x, v) -> x.blind(v, 1, 1));
        Boundaries.outside(Scenes::rich, "bed of three", 0, 2, (x, v) -> x.blind(v, 0, 0) ? 1 : NONE);
        Boundaries.denied(SaffronCourt::new, "no beds", x -> x.blind(0, 0, 0), 1);
    }

    static void promise49_nAndKAre0To4() {
        Boundaries.rangeDone(Scenes::rich, "n", 0, 4, (x, v) -> x.blind(0, v, 0));
        Boundaries.rangeDone(Scenes::rich, "k", 0, 4, (x, v) -> x.blind(0, 4, v));
    }

    static void promise49_notSoManyIs6() {
        Boundaries.denied(() -> Check.courtOf("bed;"), "one of none", x -> x.blind(0, 1, 0), 6);
        Boundaries.denied(() -> Check.courtOf("bed crocus 2 sham 1;"), "four of three", x -> x.blind(0, 4, 1), 6);
        Boundaries.denied(() -> Check.courtOf("bed sham 3;"), "four of three shams", x -> x.blind(0, 4, 0), 6);
        Boundaries.denied(() -> Check.courtOf("bed crocus 3;"), "four of three crocuses", x -> x.blind(0, 4, 4), 6);
    }

    static void promise49_1IsAheadOf6() {
        Boundaries.denied(() -> Check.courtOf("bed;"), "k 5", x -> x.blind(0, 1, 5), 1);
        Boundaries.denied(() -> Check.courtOf("bed;"), "n 5", x -> x.blind(0, 5, 0), 1);
    }

    static void promise49_asManyAsThereAre() {
        Boundaries.told(() -> Check.courtOf("bed crocus 3 sham 1;"), "three or more of all", x -> x.blind(0, 4, 3), 1, 1);
        Boundaries.told(() -> Check.courtOf("bed crocus 3 sham 1;"), "four of all", x -> x.blind(0, 4, 4), 0, 1);
    }

    static void promise49_noneTakenOfNone() {
        Boundaries.told(() -> Check.courtOf("bed;"), "none or more", x -> x.blind(0, 0, 0), 1, 1);
        Boundaries.told(() -> Check.courtOf("bed;"), "one or more", x -> x.blind(0, 0, 1), 0, 1);
        Boundaries.told(() -> Check.courtOf("bed crocus 5;"), "one or more of five", x -> x.blind(0, 0, 1), 0, 1);
    }

    static void promise49_kOf0IsSureAndAboveNIsNever() {
        for (int n = 0; n <= 4; n++) {
            int k = n;
            Boundaries.told(Scenes::small, "k 0", x -> x.blind(0, k, 0), 1, 1);
        }
        for (int n = 0; n < 4; n++) {
            int k = n;
            Boundaries.told(Scenes::small, "k above n", x -> x.blind(0, k, k + 1), 0, 1);
        }
    }

    static void promise49_crocusesAloneAreSureShamsAloneNever() {
        Boundaries.told(() -> Check.courtOf("bed crocus 4;"), "crocuses alone", x -> x.blind(0, 4, 4), 1, 1);
        Boundaries.told(() -> Check.courtOf("bed sham 4;"), "shams alone", x -> x.blind(0, 4, 1), 0, 1);
    }

    static void promise49_nonePutBack() {
        Boundaries.told(() -> Check.courtOf("bed crocus 2 sham 2;"), "both", x -> x.blind(0, 2, 2), 1, 6);
        Boundaries.told(() -> Check.courtOf("bed crocus 2 sham 2;"), "one or both", x -> x.blind(0, 2, 1), 5, 6);
        Boundaries.told(() -> Check.courtOf("bed crocus 5 sham 2;"), "three or more of four", x -> x.blind(0, 4, 3), 5, 7);
    }

    // ---- share, copyBeds

    static void promise50_scholarsThatAreThere() {
        Boundaries.rangeDone(Scenes::full, "scholar", 0, 3, SaffronCourt::share);
        Boundaries.outside(Scenes::rich, "scholar of two", 0, 1, (x, v) -> x.share(v) ? 1 : NONE);
        Boundaries.denied(SaffronCourt::new, "no scholars", x -> x.share(0), 1);
    }

    static void promise50_noGoldIs6() {
        Boundaries.denied(() -> Check.courtOf("bed crocus 9;scholar s at 0;scholar t at 0;"), "share", x -> x.share(1), 6);
        Boundaries.denied(() -> Check.courtOf("bed;scholar s at 0;"), "1 ahead of 6", x -> x.share(1), 1);
    }

    static void promise50_noneAPartAndAll() {
        Boundaries.told(Scenes::small, "all", x -> x.share(0), 1, 1);
        Boundaries.told(Scenes::small, "none", x -> x.share(1), 0, 1);
        Boundaries.told(Scenes::full, "one of four", x -> x.share(3), 1, 4);
    }

    static void promise51_trays0To3AreThere() {
        Boundaries.outside(Scenes::rich, "tray", 0, 3, SaffronCourt::copyBeds);
        SaffronCourt x = Scenes.small();
        x.tray(3, 1, 3);
        Check.due("the last tray", x, x.copyBeds(3), 3, 0);
    }

    static void promise51_aMissingTrayIs2() {
        Boundaries.refused(Scenes::rich, "missing", x -> x.copyBeds(3), 2);
        Boundaries.refused(SaffronCourt::new, "missing, no beds", x -> x.copyBeds(0), 2);
    }

    static void promise51_aTrayWithOneTooFewIs3() {
        Boundaries.refused(Scenes::rich, "two numbers, three beds", x -> x.copyBeds(2), 3);
        SaffronCourt x = Scenes.full();
        x.tray(0, 1, 5);
        Check.refused("five numbers, six beds", x, x.copyBeds(0), 3);
        x.tray(0, 1, 6);
        Check.due("six numbers, six beds", x, x.copyBeds(0), 6, 0);
        Check.due("the last", x, x.read(0, 5), 1, 0);
    }

    static void promise51_noBedsComeToATrayOfNone() {
        SaffronCourt x = new SaffronCourt();
        x.tray(0, 0, 0);
        Check.due("none", x, x.copyBeds(0), 0, 0);
    }

    static void promise51_whatIsBehindTheBedsStays() {
        SaffronCourt x = Scenes.small();
        x.tray(0, 2, 60);
        for (int i = 0; i < 60; i++) {
            x.write(0, i, 70);
        }
        Check.due("copy", x, x.copyBeds(0), 3, 0);
        long[] due = {40, 0, 7};
        for (int i = 0; i < 60; i++) {
            Check.due("at " + i, x, x.read(0, i), i < 3 ? due[i] : 70, 0);
        }
    }

    static void promise51_numbersAreCutToTheSort() {
        long[] due = {9999 - 39 * 256, 9999, 9999, 9999};
        for (int sort = 0; sort < 4; sort++) {
            SaffronCourt x = Scenes.brimming();
            x.tray(0, sort, 2);
            Check.due("copy", x, x.copyBeds(0), 2, 0);
            Check.due("sort " + sort, x, x.read(0, 0), due[sort], 0);
        }
    }

    static void promise51_bedsStayAsTheyAre() {
        SaffronCourt x = Scenes.small();
        x.tray(0, 1, 3);
        x.copyBeds(0);
        Check.due("crocuses", x, x.told(7), 47, 0);
        Check.due("shams", x, x.told(8), 99, 0);
    }
}
