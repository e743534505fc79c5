/** Boundary cases of TRAYS: promises 5 to 8. */
final class TrayBounds {
    private static final int NONE = SaffronCourt.NONE;
    // Of each sort the least number, the greatest one, and both by one farther, cut.
    private static final long[] LEAST = {-128, -32768, Integer.MIN_VALUE, Long.MIN_VALUE};
    private static final long[] GREATEST = {127, 32767, Integer.MAX_VALUE, Long.MAX_VALUE};

    private TrayBounds() {
    }

    private static SaffronCourt ofSort(int sort) {
        SaffronCourt x = new SaffronCourt();
        x.tray(0, sort, 3);
        return x;
    }

    /** Trays 0 and 1 of 16 bits, 10 11 12 13 14 and 20 21 22 23; tray 2 of 32 bits; tray 3 is missing. */
    private static SaffronCourt poured() {
        SaffronCourt x = new SaffronCourt();
        x.tray(0, 1, 5);
        x.tray(1, 1, 4);
        x.tray(2, 2, 4);
        for (int i = 0; i < 4; i++) {
            x.write(0, i, 10 + i);
            x.write(1, i, 20 + i);
        }
        x.write(0, 4, 14);
        return x;
    }

    private static void holds(String what, SaffronCourt x, int tray, long... due) {
        for (int i = 0; i < due.length; i++) {
            Check.due(what + " at " + i, x, x.read(tray, i), due[i], 0);
        }
        Check.refused(what + " has no more", x, x.read(tray, due.length), 3);
    }

    static void promise05_trays0To3AreThere() {
        Boundaries.rangeDone(Scenes::rich, "tray", 0, 3, (x, v) -> x.tray(v, 0, 1));
    }

    static void promise05_sorts0To3AreThere() {
        Boundaries.rangeDone(Scenes::rich, "sort", 0, 3, (x, v) -> x.tray(0, v, 1));
    }

    static void promise05_rowsHave0To60Numbers() {
        Boundaries.rangeDone(Scenes::rich, "many", 0, 60, (x, v) -> x.tray(0, 0, v));
    }

    static void promise05_aRowOf0HasNoPlace() {
        SaffronCourt x = new SaffronCourt();
        x.tray(0, 0, 0);
        Check.refused("place 0", x, x.read(0, 0), 3);
        Check.denied("place 0", x, x.write(0, 0, 1), 3);
    }

    static void promise05_aRowOf60HasPlace59ButNot60() {
        SaffronCourt x = new SaffronCourt();
        x.tray(0, 0, 60);
        Check.done("place 59", x, x.write(0, 59, 7));
        Check.due("place 59", x, x.read(0, 59), 7, 0);
        Check.denied("place 60", x, x.write(0, 60, 7), 3);
        Check.refused("place 60", x, x.read(0, 60), 3);
    }

    static void promise05_itIs0sWhateverWasThere() {
        SaffronCourt x = new SaffronCourt();
        x.tray(0, 3, 60);
        for (int i = 0; i < 60; i++) {
            x.write(0, i, -1);
        }
        x.tray(0, 3, 60);
        for (int i = 0; i < 60; i++) {
            Check.due("0 at " + i, x, x.read(0, i), 0, 0);
        }
    }

    static void promise05_aShorterRowThenALongerOneIs0sToo() {
        SaffronCourt x = new SaffronCourt();
        x.tray(0, 3, 3);
        x.write(0, 2, 5);
        x.tray(0, 3, 1);
        Check.refused("place 2 is gone", x, x.read(0, 2), 3);
        x.tray(0, 3, 3);
        holds("anew", x, 0, 0, 0, 0);
    }

    static void promise05_theOtherTraysStay() {
        SaffronCourt x = poured();
        x.tray(0, 0, 1);
        holds("tray 1", x, 1, 20, 21, 22, 23);
        Check.refused("tray 3 is missing", x, x.read(3, 0), 2);
    }

    static void promise06_trays0To3AreThere() {
        SaffronCourt x = new SaffronCourt();
        x.tray(3, 0, 1);
        Check.done("tray 3", x, x.write(3, 0, 1));
        Boundaries.outside(Scenes::rich, "tray", 0, 3, (y, v) -> y.write(v, 0, 1) ? 1 : NONE);
    }

    static void promise06_aMissingTrayIs2AtAnyPlace() {
        for (int place : new int[] {-1, 0, 60}) {
            Boundaries.denied(Scenes::rich, "place " + place, x -> x.write(3, place, 1), 2);
        }
    }

    static void promise06_theFirstAndTheLastPlaceAreTaken() {
        SaffronCourt x = ofSort(3);
        Check.done("first", x, x.write(0, 0, 7));
        Check.done("last", x, x.write(0, 2, 9));
        holds("tray", x, 0, 7, 0, 9);
    }

    static void promise06_aPlaceThatTheTrayHasNotIs3() {
        for (int place : new int[] {-1, 6, Integer.MIN_VALUE, Integer.MAX_VALUE}) {
            Boundaries.denied(Scenes::rich, "place " + place, x -> x.write(0, place, 1), 3);
        }
    }

    static void promise06_theLeastAndTheGreatestOfEachSortAreKept() {
        for (int sort = 0; sort < 4; sort++) {
            SaffronCourt x = ofSort(sort);
            Check.done("least", x, x.write(0, 0, LEAST[sort]));
            Check.done("greatest", x, x.write(0, 1, GREATEST[sort]));
            holds("sort " + sort, x, 0, LEAST[sort], GREATEST[sort], 0);
        }
    }

    static void promise06_oneBeyondEachSortWrapsAround() {
        for (int sort = 0; sort < 4; sort++) {
            SaffronCourt x = ofSort(sort);
            Check.done("below the least", x, x.write(0, 0, LEAST[sort] - 1));
            Check.done("above the greatest", x, x.write(0, 1, GREATEST[sort] + 1));
            holds("sort " + sort, x, 0, GREATEST[sort], LEAST[sort], 0);
        }
    }

    static void promise06_aWholeTurnOfEachSortIs0() {
        for (int sort = 0; sort < 3; sort++) {
            SaffronCourt x = ofSort(sort);
            x.write(0, 0, 5);
            x.write(0, 0, 1L << (8 << sort));
            x.write(0, 1, (1L << (8 << sort)) + 1);
            x.write(0, 2, -1);
            holds("sort " + sort, x, 0, 0, 1, -1);
        }
    }

    static void promise07_trays0To3AreThere() {
        SaffronCourt x = new SaffronCourt();
        x.tray(0, 0, 1);
        x.tray(3, 0, 1);
        Check.due("tray 0", x, x.read(0, 0), 0, 0);
        Check.due("tray 3", x, x.read(3, 0), 0, 0);
        Boundaries.outside(Scenes::rich, "tray", 0, 3, (y, v) -> y.read(v, 0));
    }

    static void promise07_aMissingTrayIs2AtAnyPlace() {
        for (int place : new int[] {-1, 0, 60}) {
            Boundaries.refused(Scenes::rich, "place " + place, x -> x.read(3, place), 2);
        }
    }

    static void promise07_aPlaceThatTheTrayHasNotIs3() {
        for (int place : new int[] {-1, 6, Integer.MIN_VALUE, Integer.MAX_VALUE}) {
            Boundaries.refused(Scenes::rich, "place " + place, x -> x.read(0, place), 3);
        }
    }

    static void promise07_statusTellsNoneFromMinus1() {
        for (int sort = 0; sort < 4; sort++) {
            SaffronCourt x = ofSort(sort);
            x.write(0, 2, -1);
            Check.due("-1 in sort " + sort, x, x.read(0, 2), -1, 0);
            Check.due("NONE in sort " + sort, x, x.read(0, 3), NONE, 3);
        }
    }

    static void promise07_readingChangesNothing() {
        Boundaries.asked(Scenes::rich, "read", x -> x.read(0, 5), 7);
    }

    static void promise08_trays0To3AreThere() {
        Boundaries.outside(TrayBounds::poured, "from", 0, 3, (x, v) -> x.pour(v, 0, 0, 0, 1) ? 1 : NONE);
        Boundaries.outside(TrayBounds::poured, "to", 0, 3, (x, v) -> x.pour(0, 0, v, 0, 1) ? 1 : NONE);
        SaffronCourt x = new SaffronCourt();
        x.tray(0, 2, 1);
        x.tray(3, 2, 1);
        x.write(0, 0, 8);
        Check.done("0 to 3", x, x.pour(0, 0, 3, 0, 1));
        holds("tray 3", x, 3, 8);
    }

    static void promise08_aPlaceBelow0Is1() {
        for (int v : new int[] {-1, Integer.MIN_VALUE}) {
            Boundaries.denied(TrayBounds::poured, "place " + v, x -> x.pour(0, v, 1, 0, 1), 1);
            Boundaries.denied(TrayBounds::poured, "at " + v, x -> x.pour(0, 0, 1, v, 1), 1);
        }
    }

    static void promise08_manyBelow0Is1() {
        for (int v : new int[] {-1, Integer.MIN_VALUE}) {
            Boundaries.denied(TrayBounds::poured, "many " + v, x -> x.pour(0, 0, 1, 0, v), 1);
        }
    }

    static void promise08_aMissingTrayOnEitherSideIs2() {
        Boundaries.denied(TrayBounds::poured, "from", x -> x.pour(3, 0, 0, 0, 1), 2);
        Boundaries.denied(TrayBounds::poured, "to", x -> x.pour(0, 0, 3, 0, 1), 2);
        Boundaries.denied(TrayBounds::poured, "nothing from", x -> x.pour(3, 0, 0, 0, 0), 2);
    }

    static void promise08_unlikeSortsAre8() {
        Boundaries.denied(TrayBounds::poured, "16 to 32 bits", x -> x.pour(0, 0, 2, 0, 1), 8);
        Boundaries.denied(TrayBounds::poured, "32 to 16 bits", x -> x.pour(2, 0, 0, 0, 1), 8);
        Boundaries.denied(TrayBounds::poured, "nothing", x -> x.pour(0, 0, 2, 0, 0), 8);
    }

    static void promise08_tooFewNumbersOnEitherSideAre3() {
        Boundaries.denied(TrayBounds::poured, "one too many to", x -> x.pour(0, 0, 1, 0, 5), 3);
        Boundaries.denied(TrayBounds::poured, "one too many from", x -> x.pour(1, 0, 0, 0, 5), 3);
        Boundaries.denied(TrayBounds::poured, "from a place too far", x -> x.pour(0, 3, 1, 0, 3), 3);
        Boundaries.denied(TrayBounds::poured, "at a place too far", x -> x.pour(0, 0, 1, 2, 3), 3);
    }

    static void promise08_aSumThatWrapsAroundIs3() {
        int max = Integer.MAX_VALUE;
        Boundaries.denied(TrayBounds::poured, "place and many", x -> x.pour(0, max, 1, 0, max), 3);
        Boundaries.denied(TrayBounds::poured, "at and many", x -> x.pour(0, 0, 1, max, 2), 3);
        Boundaries.denied(TrayBounds::poured, "place", x -> x.pour(0, max, 1, 0, 1), 3);
        Boundaries.denied(TrayBounds::poured, "many", x -> x.pour(0, 1, 1, 0, max), 3);
    }

    static void promise08_itIsAskedInTheOrder1And2And8And3() {
        Boundaries.denied(TrayBounds::poured, "1 ahead of 2", x -> x.pour(3, -1, 0, 0, 1), 1);
        Boundaries.denied(TrayBounds::poured, "1 ahead of 8", x -> x.pour(0, 0, 2, -1, 1), 1);
        Boundaries.denied(TrayBounds::poured, "1 ahead of 3", x -> x.pour(0, 9, 1, 0, -1), 1);
        Boundaries.denied(TrayBounds::poured, "no such tray ahead of a missing one", x -> x.pour(3, 0, 4, 0, 1), 1);
        Boundaries.denied(TrayBounds::poured, "2 ahead of 3", x -> x.pour(0, 9, 3, 0, 9), 2);
        Boundaries.denied(TrayBounds::poured, "2 ahead of 8", x -> x.pour(2, 0, 3, 0, 1), 2);
        Boundaries.denied(TrayBounds::poured, "8 ahead of 3", x -> x.pour(0, 9, 2, 9, 9), 8);
    }

    static void promise08_wholeTraysArePoured() {
        SaffronCourt x = poured();
        Check.done("all of tray 1", x, x.pour(1, 0, 0, 1, 4));
        holds("tray 0", x, 0, 10, 20, 21, 22, 23);
        holds("tray 1", x, 1, 20, 21, 22, 23);
    }

    static void promise08_noneArePouredAlsoBehindTheLastPlace() {
        Boundaries.asked(TrayBounds::poured, "none at the first", x -> x.pour(0, 0, 1, 0, 0) ? 1 : 0, 1);
        Boundaries.asked(TrayBounds::poured, "none behind the last", x -> x.pour(0, 5, 1, 4, 0) ? 1 : 0, 1);
        Boundaries.denied(TrayBounds::poured, "farther from", x -> x.pour(0, 6, 1, 4, 0), 3);
        Boundaries.denied(TrayBounds::poured, "farther to", x -> x.pour(0, 5, 1, 5, 0), 3);
    }

    static void promise08_itsOwnPlacesUpwardComeAsTheyWere() {
        SaffronCourt x = poured();
        Check.done("up by one", x, x.pour(0, 0, 0, 1, 4));
        holds("tray 0", x, 0, 10, 10, 11, 12, 13);
    }

    static void promise08_itsOwnPlacesDownwardComeAsTheyWere() {
        SaffronCourt x = poured();
        Check.done("down by one", x, x.pour(0, 1, 0, 0, 4));
        holds("tray 0", x, 0, 11, 12, 13, 14, 14);
    }

    static void promise08_itsOwnPlacesOnThemselvesStay() {
        Boundaries.asked(TrayBounds::poured, "on itself", x -> x.pour(0, 0, 0, 0, 5) ? 1 : 0, 1);
    }
}
