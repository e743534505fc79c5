import java.math.BigInteger;

/** Boundary cases of a new object, of STATUS and of the FRACTION: promises 1 to 4. */
final class ObjectBounds {
    private static final int NONE = SaffronCourt.NONE;

    private ObjectBounds() {
    }

    static void promise01_noneIsMinusOne() {
        Check.due("NONE", NONE, -1);
    }

    static void promise01_newCourtIsOfNothing() {
        SaffronCourt x = new SaffronCourt();
        for (int what : new int[] {0, 1, 2, 3, 6, 7, 8, 9, 10}) {
            Check.due("told " + what, x, x.told(what), 0, 0);
        }
        Boundaries.refused(SaffronCourt::new, "no bed", y -> y.bed(0, 0), 1);
        Boundaries.refused(SaffronCourt::new, "no case", y -> y.weight(0), 1);
        Boundaries.refused(SaffronCourt::new, "no claim", y -> y.claim(0, 0), 1);
        Boundaries.refused(SaffronCourt::new, "no scholar", y -> y.scholar(0, 0), 1);
    }

    static void promise01_newOddsAre8() {
        SaffronCourt x = new SaffronCourt();
        Check.due("odds", x, x.told(4), 8, 0);
    }

    static void promise01_newNightIs0() {
        SaffronCourt x = new SaffronCourt();
        Check.due("night", x, x.told(5), 0, 0);
    }

    static void promise01_newHasNoTerms() {
        Boundaries.refused(SaffronCourt::new, "live", x -> x.live(0), 6);
        Boundaries.denied(SaffronCourt::new, "mean", x -> x.mean(0, 1), 6);
        Boundaries.refused(SaffronCourt::new, "lived", x -> x.lived(0), 6);
    }

    static void promise01_newHasNoMarks() {
        Boundaries.refused(SaffronCourt::new, "undo", SaffronCourt::undo, 6);
        SaffronCourt x = new SaffronCourt();
        Check.due("the first mark", x, x.mark(), 1, 0);
    }

    static void promise01_newTraysAreMissing() {
        for (int tray = 0; tray < 4; tray++) {
            int t = tray;
            Boundaries.refused(SaffronCourt::new, "read " + t, x -> x.read(t, 0), 2);
            Boundaries.denied(SaffronCourt::new, "write " + t, x -> x.write(t, 0, 1), 2);
            Boundaries.denied(SaffronCourt::new, "pour " + t, x -> x.pour(t, 0, t, 0, 0), 2);
            Boundaries.refused(SaffronCourt::new, "fits " + t, x -> x.fits(t, 0), 2);
            Boundaries.refused(SaffronCourt::new, "copyBeds " + t, x -> x.copyBeds(t), 2);
        }
    }

    static void promise01_newTapeIsEmpty() {
        Boundaries.refused(SaffronCourt::new, "court(1)", x -> x.court(1), 1);
        Boundaries.refused(SaffronCourt::new, "terms(1)", x -> x.terms(1), 1);
        SaffronCourt x = new SaffronCourt();
        Check.due("the first twenty", x.feed(0, 0, 0, 0, 0), 20);
        SaffronCourt y = new SaffronCourt();
        Check.due("court(0)", y, y.court(0), 0, 0);
    }

    static void promise01_newFractionIs0By1() {
        Check.fraction("new", new SaffronCourt(), 0, 1);
    }

    static void promise01_newStatusIs0() {
        Check.due("new", new SaffronCourt().status(), 0);
    }

    static void promise01_newTellsNoFault() {
        SaffronCourt x = new SaffronCourt();
        Check.due("kind", x.fault(0), NONE);
        Check.due("place", x.fault(1), NONE);
    }

    static void promise01_the512thCallStillAnswers() {
        SaffronCourt x = new SaffronCourt();
        for (int call = 1; call < 512; call++) {
            x.rule(call % 17);
        }
        Check.due("the 512th", x.told(4), 511 % 17);
    }

    /** Leaves an object behind a call with each STATUS there is. */
    private static SaffronCourt withStatus(int status) {
        SaffronCourt x = Scenes.rich();
        switch (status) {
            case 1: x.bed(-1, 0); break;
            case 2: x.read(3, 0); break;
            case 3: x.read(0, 6); break;
            case 4: x.mark(); x.mark(); break;
            case 5: x.fits(0, 3); break;
            case 6: x.first(0, 0); break;
            case 7: x.make(0); break;
            case 8: x.pour(0, 0, 1, 0, 0); break;
            case 9: x.feed(0, 0, 0, 0, 0); x.court(60); break;
            default: x.couples(); break;
        }
        return x;
    }

    static void promise02_eachStatusFrom0To9IsTold() {
        for (int status = 0; status <= 9; status++) {
            Check.due("status " + status, withStatus(status).status(), status);
        }
    }

    static void promise02_statusIs0AgainBehindACallThatIsDone() {
        for (int status = 0; status <= 9; status++) {
            SaffronCourt x = withStatus(status);
            x.told(0);
            Check.due("told() behind " + status, x.status(), 0);
        }
    }

    static void promise02_statusItselfLeavesIt() {
        for (int status = 0; status <= 9; status++) {
            SaffronCourt x = withStatus(status);
            Check.due("once", x.status(), status);
            Check.due("twice", x.status(), status);
        }
    }

    static void promise02_topAndBottomHaveNoStatus() {
        for (int status = 0; status <= 9; status++) {
            SaffronCourt x = withStatus(status);
            x.top();
            x.bottom();
            Check.due("behind top(), bottom()", x.status(), status);
        }
    }

    static void promise02_feedHasNoStatusTakenOrNot() {
        for (int status = 0; status <= 9; status++) {
            SaffronCourt x = withStatus(status);
            for (int i = 0; i < 46; i++) {
                x.feed(0, 0, 0, 0, 0);
            }
            Check.due("a feed too many", x.feed(0, 0, 0, 0, 0), NONE);
            Check.due("behind feed()", x.status(), status);
        }
    }

    static void promise02_faultHasNoStatusForAnyWhat() {
        for (int status = 0; status <= 9; status++) {
            SaffronCourt x = withStatus(status);
            for (int what : new int[] {-1, 0, 1, 2}) {
                x.fault(what);
            }
            Check.due("behind fault()", x.status(), status);
        }
    }

    static void promise02_aRefusedCallHasItsStatusBehindOneThatIsDone() {
        SaffronCourt x = new SaffronCourt();
        x.told(0);
        x.undo();
        Check.due("6 behind 0", x.status(), 6);
        x.told(-1);
        Check.due("1 behind 6", x.status(), 1);
    }

    static void promise03_theFractionToldLatestCounts() {
        SaffronCourt x = Scenes.small();
        x.blind(2, 1, 1);
        Check.fraction("7 of 9", x, 7, 9);
        x.share(0);
        Check.fraction("all gold", x, 1, 1);
    }

    static void promise03_withoutACommonDivisor() {
        SaffronCourt x = Check.courtOf("bed;scholar a at 0 gold 6;scholar b at 0 gold 9;");
        x.share(0);
        Check.fraction("6 of 15", x, 2, 5);
        SaffronCourt y = Check.courtOf("bed;scholar a at 0 gold 999;scholar b at 0 gold 998;");
        y.share(0);
        Check.fraction("none in common", y, 999, 1997);
    }

    static void promise03_allIs1By1() {
        SaffronCourt x = Check.courtOf("bed;scholar a at 0 gold 999;");
        x.share(0);
        Check.fraction("all", x, 1, 1);
    }

    static void promise03_itStaysWithARefusedCall() {
        SaffronCourt x = Scenes.small();
        x.blind(2, 1, 1);
        x.blind(2, 5, 1);
        x.share(9);
        x.oddsThat(0, 0, 0);
        x.mean(0, 1);
        Check.fraction("as it was", x, 7, 9);
    }

    static void promise03_itStaysWithCallsThatTellNone() {
        SaffronCourt x = Scenes.small();
        x.blind(2, 1, 1);
        Check.terms(x, "pick udo;");
        x.mark();
        x.live(1);
        x.undo();
        x.court(0);
        Check.fraction("as it was", x, 7, 9);
    }

    static void promise03_theGreatestThereCanBe() {
        SaffronCourt x = Scenes.brimmingBut(99);
        Check.due("crocuses", x.bed(0, 0), 9900);
        Check.due("shams", x.bed(0, 1), 99);
        Check.done("blind", x, x.blind(0, 4, 4));
        BigInteger above = product(9900, 4);
        BigInteger below = product(9999, 4);
        BigInteger common = above.gcd(below);
        Check.fraction("4 of 9,999", x, above.divide(common).longValueExact(), below.divide(common).longValueExact());
    }

    private static BigInteger product(int from, int many) {
        BigInteger product = BigInteger.ONE;
        for (int i = 0; i < many; i++) {
            product = product.multiply(BigInteger.valueOf(from - i));
        }
        return product;
    }

    static void promise04_zeroIs0By1InEachCallThatTellsOne() {
        SaffronCourt x = Scenes.small();
        x.share(0);
        Check.done("share of none", x, x.share(1));
        Check.fraction("share of none", x, 0, 1);
        x.share(0);
        Check.done("blind of more than are taken", x, x.blind(0, 1, 2));
        Check.fraction("blind of more than are taken", x, 0, 1);
        x.share(0);
        x.tray(0, 0, 2);
        Check.done("odds of another", x, x.oddsThat(0, 1, 0));
        Check.fraction("odds of another", x, 0, 1);
        SaffronCourt y = Scenes.withTerms("bed;scholar s at 0;", "any;");
        y.blind(0, 0, 0);
        Check.done("mean of no gold", y, y.mean(0, 20));
        Check.fraction("mean of no gold", y, 0, 1);
    }

    static void promise04_aWholeHasBottom1() {
        SaffronCourt x = Scenes.withTerms("bed;scholar s at 0 gold 3;", "any;");
        x.mean(0, 20);
        Check.fraction("3 in each of 20", x, 3, 1);
    }
}
