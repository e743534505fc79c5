/** Objects that tests begin with, each made anew by the same calls. */
final class Scenes {
    // Four cases, four claims (the last is true of none), two scholars.
    static final String SMALL = "odds 5;bed crocus 40 sham 97;bed;bed crocus 7 sham 2;"
        + "case a weight 1;case b weight 2;case c weight 3;case d weight 4;"
        + "claim ab at 1 of a b;claim ac at 2 cost 2 of a c;claim abc at 0 cost 3 of c b a;claim no at 1 of;"
        + "scholar una at 1 gold 5;scholar udo at 0;";

    // As many of all as there may be; three claims part all cases, one is true of none, one of all.
    static final String FULL = Check.times("bed crocus 1;", 6) + Check.times("case c# weight 1;", 8)
        + "claim ka at 0 of ca cb cc cd;claim kb at 1 of ca cb ce cf;claim kc at 2 of ca cc ce cg;claim kd at 3 of;"
        + "claim ke at 4 of ca cb cc cd ce cf cg ch;claim kf at 5 of ca;claim kg at 5 cost 9 of ch;"
        + Check.times("scholar s# at 5 gold 1;", 4);

    // One claim halves eight cases, so it yields 12.
    private static final String HALVED = "bed crocus 99;bed;scholar s at 0 gold 999;scholar t at 1;"
        + Check.times("case c# weight 1;", 8) + "claim k at 0 of ca cb cc cd;claim l at 1 of;";

    private Scenes() {
    }

    static SaffronCourt small() {
        return Check.courtOf(SMALL);
    }

    static SaffronCourt full() {
        return Check.courtOf(FULL);
    }

    static SaffronCourt allMade() {
        SaffronCourt x = full();
        for (int claim = 0; claim < 7; claim++) {
            x.make(claim);
        }
        return x;
    }

    static SaffronCourt oneCase() {
        return Check.courtOf("bed;case a weight 1;claim k at 0 of a;claim l at 0 of;");
    }

    /** Cases b and c are parted by no claim. */
    static SaffronCourt unparted() {
        return Check.courtOf("bed;case a weight 2;case b weight 3;case c weight 4;claim k at 0 cost 5 of a;claim l at 0 of b c;");
    }

    /** As heavy and as dear as can be: of each case but the last a claim is true alone, so all seven are needed. */
    static SaffronCourt oneByOne() {
        SaffronCourt x = Check.courtOf("bed;" + Check.times("case # weight 20;", 8));
        for (int claim = 0; claim < 7; claim++) {
            x.think(1 << claim, 0, 9);
        }
        return x;
    }

    /** Something of all that an object can hold: marks, terms, trays, a tape, a fault, a fraction, what was lived. */
    static SaffronCourt rich() {
        SaffronCourt x = small();
        x.mark();
        Check.terms(x, "any;pick udo;");
        x.make(0);
        x.night(3);
        x.mark();
        Check.terms(x, "when made ab;night 2;end;any;loop 3;pick una;any;end;");
        x.live(11);
        x.weigh(1, 9);
        x.tray(0, 3, 6);
        long[] told = {0, 1, 1, 0, -1, 7};
        for (int i = 0; i < told.length; i++) {
            x.write(0, i, told[i]);
        }
        x.tray(1, 0, 60);
        x.write(1, 59, -1);
        x.tray(2, 1, 2);
        x.write(2, 0, 300);
        x.blind(0, 2, 1);
        Check.terms(x, "loop 2;x");
        Check.feed(x, "odds 3;bed crocus 1;bed sham 2;         ");
        return x;
    }

    /** A rich one that has all the marks it may have. */
    static SaffronCourt marked() {
        SaffronCourt x = rich();
        x.mark();
        x.rule(1);
        return x;
    }

    /** Bed 0 has 9,999 crocuses, the scholar at it 999 gold, nothing is made. */
    static SaffronCourt brimming() {
        SaffronCourt x = Check.courtOf(HALVED);
        Check.terms(x, "loop 99;make k;forget;end;");
        for (int i = 0; i < 8; i++) {
            x.live(0);
        }
        Check.terms(x, "loop 33;make k;forget;end;");
        x.live(0);
        return x;
    }

    /** A brimming one with so many crocuses fewer, withered by nights. */
    static SaffronCourt brimmingBut(int fewer) {
        SaffronCourt x = brimming();
        for (int left = fewer; left > 0; left -= 99) {
            x.night(Math.min(99, left));
        }
        return x;
    }

    static SaffronCourt withTerms(String court, String terms) {
        SaffronCourt x = Check.courtOf(court);
        Check.terms(x, terms);
        Check.due("terms: " + terms, x.status(), 0);
        return x;
    }
}
