/** Boundary cases of the tape, and of how much of it court() takes: promises 9 and 10. */
final class TapeBounds {
    private static final int NONE = SaffronCourt.NONE;
    private static final int BLANKS = 0x20202020;

    private TapeBounds() {
    }

    private static int feedBlanks(SaffronCourt x) {
        return x.feed(BLANKS, BLANKS, BLANKS, BLANKS, BLANKS);
    }

    /** A tape of 900 bytes, the last of which ends the one part of the court. */
    private static SaffronCourt fullTape() {
        SaffronCourt x = new SaffronCourt();
        Check.feed(x, "odds 3" + " ".repeat(893) + ";");
        return x;
    }

    static void promise09_eachFeedBringsTwentyBytesUpTo900() {
        SaffronCourt x = new SaffronCourt();
        for (int i = 1; i <= 45; i++) {
            Check.due("feed " + i, feedBlanks(x), 20 * i);
        }
        Check.due("the 46th", feedBlanks(x), NONE);
    }

    static void promise09_whatWouldBeMoreThan900LeavesTheTape() {
        Boundaries.asked(TapeBounds::fullTape, "feed", x -> x.feed(0, 0, 0, 0, 0), NONE);
        SaffronCourt x = fullTape();
        x.feed(0, 0, 0, 0, 0);
        Check.due("court", x, x.court(900), 0, 0);
        Check.due("its odds", x, x.told(4), 3, 0);
    }

    static void promise09_anEmptyTapeIsFedAgain() {
        SaffronCourt x = fullTape();
        x.court(900);
        for (int i = 1; i <= 45; i++) {
            Check.due("feed " + i, feedBlanks(x), 20 * i);
        }
        Check.due("the 46th", feedBlanks(x), NONE);
    }

    static void promise09_theHighestByteOfEachIntIsFirst() {
        SaffronCourt x = new SaffronCourt();
        x.feed(0x6f646473, 0x0a31353b, 0x6265643b, 0x20626564, 0x3b0a2020);
        Check.due("odds 15; bed; bed;", x, x.court(20), 0, 0);
        Check.due("odds", x, x.told(4), 15, 0);
        Check.due("beds", x, x.told(0), 2, 0);
    }

    static void promise09_bytesOfIntsBelow0AreBytes() {
        SaffronCourt x = new SaffronCourt();
        x.feed(BLANKS, BLANKS, BLANKS, BLANKS, 0x202020ff);
        Check.refused("byte 255", x, x.court(20), 9);
        Check.due("kind", x.fault(0), 1);
        Check.due("place", x.fault(1), 19);
        x.feed(BLANKS, 0x80000000, BLANKS, BLANKS, BLANKS);
        Check.refused("byte 128", x, x.court(20), 9);
        Check.due("place", x.fault(1), 4);
    }

    static void promise09_aWordGoesOnFromFeedToFeed() {
        SaffronCourt x = new SaffronCourt();
        Check.feed(x, " ".repeat(18) + "odds 1");
        Check.feed(x, " ");
        Check.refused("a NUL is no blank", x, x.court(27), 9);
        Check.due("place", x.fault(1), 24);
        Check.due("odds", x, Check.court(x, " ".repeat(18) + "odds 16;"), 0, 0);
        Check.due("told", x, x.told(4), 16, 0);
    }

    static void promise10_nBelow0Is1() {
        for (int n : new int[] {-1, Integer.MIN_VALUE}) {
            Boundaries.refused(Scenes::rich, "court(" + n + ")", x -> x.court(n), 1);
        }
    }

    static void promise10_nMoreThanTheTapeHasIs1() {
        for (int n : new int[] {41, 900, 901, Integer.MAX_VALUE}) {
            Boundaries.refused(Scenes::rich, "court(" + n + ")", x -> x.court(n), 1);
        }
        Boundaries.refused(TapeBounds::fullTape, "court(901)", x -> x.court(901), 1);
    }

    static void promise10_nAsManyAsTheTapeHasIsTaken() {
        SaffronCourt x = Scenes.rich();
        Check.due("court(40)", x, x.court(40), 0, 0);
        Check.due("beds", x, x.told(0), 2, 0);
        SaffronCourt y = fullTape();
        Check.due("court(900)", y, y.court(900), 0, 0);
        Check.due("odds", y, y.told(4), 3, 0);
    }

    static void promise10_ofA900BytesTextTheLastCounts() {
        SaffronCourt x = fullTape();
        Check.refused("court(899)", x, x.court(899), 9);
        Check.due("kind", x.fault(0), 2);
        Check.due("place", x.fault(1), 899);
    }

    static void promise10_nOf0IsACourtOfNothing() {
        SaffronCourt x = Scenes.rich();
        Check.due("court(0)", x, x.court(0), 0, 0);
        for (int what = 0; what <= 10; what++) {
            Check.due("told " + what, x, x.told(what), what == 4 ? 8 : 0, 0);
        }
    }

    static void promise10_whatIsBehindNIsNotRead() {
        SaffronCourt x = new SaffronCourt();
        Check.feed(x, "odds 3;?");
        Check.due("court(7)", x, x.court(7), 0, 0);
    }

    static void promise10_aTokenEndsWhereTheTextEnds() {
        String[] texts = {"bed;bed;", "odds 12345;", "case abcdefghij", "odds 1;;"};
        int[] lengths = {6, 9, 13, 7};
        int[] kinds = {2, 4, 2, 0};
        int[] places = {4, 5, 13, NONE};
        for (int i = 0; i < texts.length; i++) {
            SaffronCourt x = new SaffronCourt();
            Check.feed(x, texts[i]);
            x.court(lengths[i]);
            Check.due("kind in " + texts[i], x.fault(0), kinds[i]);
            Check.due("place in " + texts[i], x.fault(1), places[i]);
        }
    }

    static void promise10_a900BytesTextMayEndInAnyByte() {
        for (int b = 0; b < 256; b++) {
            String text = "bed;" + " ".repeat(895) + (char) b;
            if (b == 10 || b == 32) {
                Check.courtOf(text);
            } else {
                Check.courtFault(text, CourtTextBounds.beginsToken(b) ? 2 : 1, 899);
            }
        }
    }

    static void promise10_theTapeIsEmptyThenWhateverNWas() {
        for (int n : new int[] {0, 20, 31, 40}) {
            SaffronCourt x = Scenes.rich();
            Check.due("court(" + n + ")", x, x.court(n), 0, 0);
            Check.due("feed", feedBlanks(x), 20);
        }
    }

    static void promise10_theTapeIsEmptyBehindAFault() {
        SaffronCourt x = Scenes.rich();
        Check.refused("court(10)", x, x.court(10), 9);
        Check.due("feed", feedBlanks(x), 20);
    }

    static void promise10_theTapeStaysWith1() {
        SaffronCourt x = Scenes.rich();
        Check.refused("court(41)", x, x.court(41), 1);
        Check.due("feed", feedBlanks(x), 60);
        Check.due("what was on it", x, x.court(40), 0, 0);
        Check.due("odds", x, x.told(4), 3, 0);
    }

    static void promise10_aFaultLeavesTheOldOne() {
        String[] texts = {"?", "weight", "case a weight 1;case a", "bed crocus 100;", "odds", "bed;bed;bed;bed;bed"};
        int[] places = {40, 40, 61, 51, 40, 56};
        for (int kind = 1; kind <= 6; kind++) {
            String text = texts[kind - 1];
            Boundaries.faulty(Scenes::rich, text, x -> x.court(40 + Check.feed(x, text)), kind, places[kind - 1]);
        }
    }

    static void promise10_itTellsHowManyClaimsFrom0To7() {
        SaffronCourt x = new SaffronCourt();
        for (int many = 0; many <= 7; many++) {
            Check.due("claims", x, Check.court(x, "bed;" + Check.times("claim c# at 0 of;", many)), many, 0);
        }
    }

    static void promise10_itIsInPlaceOfThatAhead() {
        SaffronCourt x = Scenes.full();
        Check.due("court", x, Check.court(x, "bed;case a weight 3;"), 0, 0);
        int[] due = {1, 1, 0, 0, 8, 0, 0, 0, 0, 0, 1};
        for (int what = 0; what < due.length; what++) {
            Check.due("told " + what, x, x.told(what), due[what], 0);
        }
    }

    static void promise10_oddsOfThatAheadAreGone() {
        SaffronCourt x = Check.courtOf("odds 3;");
        Check.court(x, "bed;");
        Check.due("8 without", x, x.told(4), 8, 0);
        Check.due("told once in each text", x, Check.court(x, "odds 4;"), 0, 0);
    }

    static void promise10_namesOfThatAheadAreFree() {
        SaffronCourt x = Scenes.full();
        Check.due("the same text", x, Check.court(x, Scenes.FULL), 7, 0);
        Check.refused("cases of the one ahead", x, Check.court(x, "bed;claim k at 0 of ca;"), 9);
        Check.due("kind", x.fault(0), 3);
    }

    static void promise10_itIsNight0() {
        SaffronCourt x = Scenes.small();
        x.night(99);
        Check.court(x, Scenes.SMALL);
        Check.due("night", x, x.told(5), 0, 0);
    }

    static void promise10_noClaimIsMade() {
        SaffronCourt x = Scenes.small();
        x.make(0);
        x.make(3);
        Check.court(x, Scenes.SMALL);
        Check.due("made", x, x.told(6), 0, 0);
    }

    static void promise10_thereAreNoTerms() {
        SaffronCourt x = Scenes.withTerms(Scenes.SMALL, "any;");
        Check.court(x, Scenes.SMALL);
        Check.refused("live", x, x.live(0), 6);
        Check.denied("mean", x, x.mean(0, 1), 6);
    }

    static void promise10_marksAndTraysAreThereBehindIt() {
        SaffronCourt x = Scenes.marked();
        x.court(0);
        Check.due("a place of a tray", x, x.read(0, 5), 7, 0);
        Check.refused("a fourth mark", x, x.mark(), 4);
        Check.due("undo", x, x.undo(), 2, 0);
        Check.due("claims", x, x.told(2), 4, 0);
    }
}
