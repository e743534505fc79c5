/** At least one test for each promise of the document, by its number. */
public final class PromiseTests {
    private static final int NONE = SaffronCourt.NONE;

    // Four cases, four claims (the last is true of none), two scholars.
    private static final String SMALL = "bed crocus 5 sham 2;bed;bed crocus 4 sham 1;"
        + "case a weight 1;case b weight 2;case c weight 3;case d weight 4;"
        + "claim ab at 1 of a b;claim ac at 2 cost 2 of a c;claim abc at 0 cost 3 of c b a;claim no at 1 of;"
        + "scholar una at 1 gold 5;scholar udo at 0;";

    private static SaffronCourt small() {
        return Check.courtOf(SMALL);
    }

    private static void promise01() {
        SaffronCourt x = new SaffronCourt();
        Check.due("new status", x.status(), 0);
        Check.fraction("new", x, 0, 1);
        int[] first = {0, 0, 0, 0, 8, 0, 0, 0, 0, 0, 0};
        for (int what = 0; what < first.length; what++) {
            Check.due("new told " + what, x, x.told(what), first[what], 0);
        }
        for (int tray = 0; tray < 4; tray++) {
            Check.refused("new tray", x, x.read(tray, 0), 2);
        }
        Check.refused("no marks", x, x.undo(), 6);
        Check.refused("no terms", x, x.live(0), 6);
        Check.due("an empty tape", x.feed(0, 0, 0, 0, 0), 20);
        Check.due("no fault", x.fault(0), NONE);
    }

    private static void promise02() {
        SaffronCourt x = small();
        x.make(9);
        Check.due("status stays", x.status(), 1);
        x.top();
        x.bottom();
        x.fault(0);
        x.feed(1, 2, 3, 4, 5);
        x.status();
        Check.due("calls that have none", x.status(), 1);
        x.couples();
        Check.due("status is the latest", x.status(), 0);
    }

    private static void promise03And04() {
        SaffronCourt x = small();
        x.share(0);
        Check.fraction("share", x, 1, 1);
        x.share(1);
        Check.fraction("0 is 0 by 1", x, 0, 1);
        x.blind(0, 1, 1);
        Check.fraction("blind", x, 5, 7);
        x.blind(9, 1, 1);
        Check.fraction("stays", x, 5, 7);
        x.blind(0, 2, 1);
        Check.fraction("without a common divisor", x, 20, 21);
    }

    private static void promise05() {
        SaffronCourt x = new SaffronCourt();
        Check.denied("tray -1", x, x.tray(-1, 0, 1), 1);
        Check.denied("tray 4", x, x.tray(4, 0, 1), 1);
        Check.denied("sort -1", x, x.tray(0, -1, 1), 1);
        Check.denied("sort 4", x, x.tray(0, 4, 1), 1);
        Check.denied("many -1", x, x.tray(0, 0, -1), 1);
        Check.denied("many 61", x, x.tray(0, 0, 61), 1);
        Check.refused("still missing", x, x.read(0, 0), 2);
        Check.done("60", x, x.tray(0, 3, 60));
        x.write(0, 59, 7);
        Check.due("last", x, x.read(0, 59), 7, 0);
        Check.done("again", x, x.tray(0, 3, 60));
        Check.due("0s anew", x, x.read(0, 59), 0, 0);
        Check.done("of none", x, x.tray(0, 0, 0));
        Check.refused("no place", x, x.read(0, 0), 3);
    }

    private static void promise06And07() {
        SaffronCourt x = new SaffronCourt();
        Check.denied("no such tray", x, x.write(4, 0, 1), 1);
        Check.denied("missing", x, x.write(0, -1, 1), 2);
        Check.refused("no such tray", x, x.read(-1, 0), 1);
        Check.refused("missing", x, x.read(1, 70), 2);
        long[] cut = {-1, -1, -1, 0x7fffffffffffffffL};
        long[] low = {0x90 - 256, 0x7890, 0x12347890, 0x5612347890L};
        for (int sort = 0; sort < 4; sort++) {
            x.tray(sort, sort, 3);
            Check.done("write", x, x.write(sort, 2, 0x7fffffffffffffffL));
            Check.due("cut to sort " + sort, x, x.read(sort, 2), cut[sort], 0);
            Check.done("write", x, x.write(sort, 0, 0x5612347890L));
            Check.due("low of sort " + sort, x, x.read(sort, 0), low[sort], 0);
            Check.denied("place -1", x, x.write(sort, -1, 1), 3);
            Check.denied("place 3", x, x.write(sort, 3, 1), 3);
            Check.refused("place -1", x, x.read(sort, -1), 3);
            Check.refused("place 3", x, x.read(sort, 3), 3);
            Check.due("others stay", x, x.read(sort, 1), 0, 0);
        }
    }

    private static void promise08() {
        SaffronCourt x = new SaffronCourt();
        x.tray(0, 1, 5);
        x.tray(1, 1, 4);
        x.tray(2, 2, 4);
        for (int i = 0; i < 5; i++) {
            x.write(0, i, 10 + i);
        }
        Check.denied("no such from", x, x.pour(4, 0, 0, 0, 1), 1);
        Check.denied("no such to", x, x.pour(0, 0, -1, 0, 1), 1);
        Check.denied("place below 0", x, x.pour(3, -1, 0, 0, 1), 1);
        Check.denied("at below 0", x, x.pour(0, 0, 3, -1, 1), 1);
        Check.denied("many below 0", x, x.pour(0, 0, 2, 0, -1), 1);
        Check.denied("from missing", x, x.pour(3, 0, 0, 0, 9), 2);
        Check.denied("to missing", x, x.pour(0, 0, 3, 0, 1), 2);
        Check.denied("unlike ahead of too few", x, x.pour(0, 0, 2, 0, 9), 8);
        Check.denied("too few from", x, x.pour(1, 2, 0, 0, 3), 3);
        Check.denied("too few to", x, x.pour(0, 0, 1, 0, 5), 3);
        Check.denied("far out", x, x.pour(0, Integer.MAX_VALUE, 1, 0, Integer.MAX_VALUE), 3);
        Check.denied("place behind the end", x, x.pour(0, 6, 1, 0, 0), 3);
        Check.done("pour", x, x.pour(0, 1, 1, 0, 4));
        Check.due("poured", x, x.read(1, 3), 14, 0);
        Check.done("its own, upward", x, x.pour(0, 0, 0, 1, 4));
        long[] due = {10, 10, 11, 12, 13};
        for (int i = 0; i < 5; i++) {
            Check.due("as they were", x, x.read(0, i), due[i], 0);
        }
        Check.done("its own, downward", x, x.pour(0, 1, 0, 0, 4));
        Check.due("as they were", x, x.read(0, 0), 10, 0);
        Check.due("as they were", x, x.read(0, 3), 13, 0);
        Check.done("nothing", x, x.pour(0, 5, 1, 4, 0));
    }

    private static void promise09() {
        SaffronCourt x = new SaffronCourt();
        for (int i = 1; i <= 45; i++) {
            Check.due("feed", x.feed(0x20202020, 0x20202020, 0x20202020, 0x20202020, 0x20202020), 20 * i);
        }
        Check.due("feed beyond 900", x.feed(0, 0, 0, 0, 0), NONE);
        Check.due("900 blanks", x, x.court(900), 0, 0);
        Check.due("the tape is empty then", x.feed(0x6f646473, 0x20333b00, 0, 0, 0), 20);
        Check.due("highest first", x, x.court(7), 0, 0);
        Check.due("odds 3", x, x.told(4), 3, 0);
    }

    private static void promise10() {
        SaffronCourt x = small();
        x.make(0);
        x.night(3);
        Check.terms(x, "any;");
        Check.refused("n below 0", x, x.court(-1), 1);
        Check.refused("n more than there is", x, x.court(1), 1);
        Check.feed(x, "bed;");
        Check.refused("n more than there is", x, x.court(21), 1);
        Check.due("the tape stays with 1", x.feed(0, 0, 0, 0, 0), 40);
        Check.refused("fault", x, x.court(3), 9);
        Check.due("the tape is empty with 9", x.feed(0x20202020, 0, 0, 0, 0), 20);
        Check.due("the old one stays", x, x.told(1), 4, 0);
        Check.due("its night too", x, x.told(5), 3, 0);
        Check.due("its terms too", x, x.live(1), 1, 0);
        Check.due("court of nothing", x, x.court(4), 0, 0);
        for (int what = 0; what < 11; what++) {
            Check.due("nothing is there", x, x.told(what), what == 4 ? 8 : 0, 0);
        }
        Check.refused("there are no terms", x, x.live(1), 6);
        Check.due("how many claims", x, Check.court(x, SMALL), 4, 0);
        Check.due("none is made", x, x.told(6), 0, 0);
        Check.due("marks stay over a court", x, x.mark(), 1, 0);
        Check.court(x, "");
        Check.due("undo takes the court back", x, x.undo(), 0, 0);
        Check.due("undone", x, x.told(2), 4, 0);
    }

    private static void courtTexts() {
        SaffronCourt x = Check.courtOf("\n odds\n16;bed;bed sham 99;bed crocus 0099;scholar odd at 02 gold 999;");
        Check.due("odds", x, x.told(4), 16, 0);
        Check.due("no blanks between", x, Check.court(x, "odds0;bed crocus1sham2;case a weight20;claim b at0cost9of a;"), 1, 0);
        Check.due("shams", x, x.told(8), 2, 0);
        Check.due("cost", x, x.claim(0, 1), 9, 0);
        Check.due("0s told", x, Check.court(x, "odds 0;bed crocus 0 sham 0;scholar zaz at 0 gold 0;"), 0, 0);
        Check.due("names of 8 letters", x, Check.court(x, "bed;scholar abcdefgh at 0;scholar abcdefgi at 0;"), 0, 0);
        Check.due("two scholars", x, x.told(3), 2, 0);
        Check.due("cases told once in each claim", x,
            Check.court(x, "bed;case a weight 1;claim b at 0 of a;claim c at 0 of a;"), 2, 0);
        Check.due("full", x, Check.court(x, Check.times("bed;", 6) + Check.times("case c# weight 1;", 8)
            + Check.times("claim d# at 5 of;", 7) + Check.times("scholar e# at 5;", 4)), 7, 0);
    }

    private static void courtFaults() {
        Check.courtFault("bed;Bed;", 1, 4);
        Check.courtFault("bed, ", 1, 3);
        Check.courtFault("bed crocus 00001;", 1, 11);
        Check.courtFault("\u00e9", 1, 0);
        Check.courtFault("\t", 1, 0);
        Check.courtFault("12345", 1, 0);
        Check.courtFault("bed 12345;", 1, 4);
        Check.courtFault("1234", 2, 0);
        Check.courtFault("bed ; x", 2, 6);
        Check.courtFault("beds;", 2, 0);
        Check.courtFault("bed \n ", 2, 6);
        Check.courtFault("bed", 2, 3);
        Check.courtFault("bed;;", 2, 4);
        Check.courtFault("bed sham 1 crocus 1;", 2, 11);
        Check.courtFault("bed sham;", 2, 8);
        Check.courtFault("case z weight 1;case zz weight 1;case zz", 3, 38);
        Check.courtFault("case bed weight 1;", 2, 5);
        Check.courtFault("case stop weight 1;", 2, 5);
        Check.courtFault("case made weight 1;", 2, 5);
        Check.courtFault("case any weight 1;", 2, 5);
        Check.courtFault("case abcdefghi weight 1;", 2, 5);
        Check.courtFault("case a weight 1 1;", 2, 16);
        Check.courtFault("case a 1;", 2, 7);
        Check.courtFault("bed;claim a at 0 of abcdefghi;", 2, 20);
        Check.courtFault("bed;claim a at 0 of of;", 2, 20);
        Check.courtFault("bed;claim a at 0 cost 1 ;", 2, 24);
        Check.courtFault("make a;", 2, 0);
        Check.courtFault("odds < 3;", 2, 5);
        Check.courtFault("case a weight 1;case a weight 99;", 3, 21);
        Check.courtFault("bed;case a weight 1;claim a at 0 of;", 3, 26);
        Check.courtFault("bed;claim a at 0 of;scholar a at 0;", 3, 28);
        Check.courtFault("bed;scholar a at 0;case a weight 1;", 3, 24);
        Check.courtFault("bed;claim a at 0 of b;case b weight 1;", 3, 20);
        Check.courtFault("bed;claim a at 0 of a;", 3, 20);
        Check.courtFault("bed;scholar b at 0;claim a at 0 of b;", 3, 35);
        Check.courtFault("odds 17;", 4, 5);
        Check.courtFault("bed crocus 100;", 4, 11);
        Check.courtFault("case a weight 0;", 4, 14);
        Check.courtFault("case a weight 21;", 4, 14);
        Check.courtFault("scholar a at 0;", 4, 13);
        Check.courtFault("bed;claim a at 1 of;", 4, 15);
        Check.courtFault("bed;claim a at 0 cost 0 of;", 4, 22);
        Check.courtFault("bed;claim a at 0 cost 10 of;", 4, 22);
        Check.courtFault("bed;scholar a at 0 gold 1000;", 4, 24);
        Check.courtFault("odds 1;bed;odds 99;", 5, 11);
        Check.courtFault("bed;case a weight 1;claim b at 0 of a a;", 5, 38);
        Check.courtFault(Check.times("bed;", 6) + " bed 1", 6, 25);
        Check.courtFault(Check.times("case # weight 1;", 8) + "case", 6, 128);
        Check.courtFault("bed;" + Check.times("claim # at 0 of;", 7) + "claim", 6, 116);
        Check.courtFault("bed;" + Check.times("scholar # at 0;", 4) + "scholar", 6, 64);
    }

    private static void promise11() {
        SaffronCourt x = small();
        Check.refused("n below 0", x, x.terms(-1), 1);
        Check.refused("more than there is", x, x.terms(1), 1);
        int length = Check.feed(x, Check.times(" ", 301));
        Check.refused("above 300", x, x.terms(length), 1);
        Check.due("300", x, x.terms(300), 0, 0);
        Check.due("the tape is empty then", x.feed(0, 0, 0, 0, 0), 20);
        Check.refused("fault", x, x.terms(1), 9);
        Check.due("the tape is empty then", x.feed(0, 0, 0, 0, 0), 20);
        Check.due("an empty text", x, x.terms(0), 0, 0);
        SaffronCourt y = small();
        Check.due("steps, end is none", y, Check.terms(y,
            "make ab;walk una 2;pick udo;night 40;forget;any;when made no;loop 99;stop;end;end;"
            + "when crocus 2<9999;end;when gold una>0;end;when gold udo=3;end;"), 12, 0);
        Check.refused("a fault leaves the old terms", y, Check.terms(y, "pick"), 9);
        Check.due("old terms", y, y.live(0) > 6 ? 1 : 0, 1, 0);
        Check.refused("a fault within loops", y, Check.terms(y, "loop 2;loop 2;"), 9);
        Check.due("leaves no loops", y, Check.terms(y, "loop 1;loop 1;night 1;end;end;when crocus 0>0;end;"), 4, 0);
        Check.due("30 steps", y, Check.terms(y, Check.times("forget;", 30)), 30, 0);
        Check.due("three within each other", y, Check.terms(y, "loop 1;loop 1;when made ab;stop;end;end;end;"), 4, 0);
    }

    private static void termsFaults() {
        Check.termsFault(SMALL, "any:", 1, 3);
        Check.termsFault(SMALL, "night 00001;", 1, 6);
        Check.termsFault(SMALL, "end;", 2, 0);
        Check.termsFault(SMALL, "loop 2;any;", 2, 11);
        Check.termsFault(SMALL, "loop 2;end;end;", 2, 11);
        Check.termsFault(SMALL, "loop 2;end", 2, 10);
        Check.termsFault(SMALL, "made ab;", 2, 0);
        Check.termsFault(SMALL, "bed;", 2, 0);
        Check.termsFault(SMALL, "x;", 2, 0);
        Check.termsFault(SMALL, "make make;", 2, 5);
        Check.termsFault(SMALL, "make abcdefghi;", 2, 5);
        Check.termsFault(SMALL, "make 1;", 2, 5);
        Check.termsFault(SMALL, "walk una;", 2, 8);
        Check.termsFault(SMALL, "any 1;", 2, 4);
        Check.termsFault(SMALL, "when ab;end;", 2, 5);
        Check.termsFault(SMALL, "when crocus una<1;end;", 2, 12);
        Check.termsFault(SMALL, "when crocus 1;1;end;", 2, 13);
        Check.termsFault(SMALL, "when gold 1<1;end;", 2, 10);
        Check.termsFault(SMALL, "when gold una<udo;end;", 2, 14);
        Check.termsFault(SMALL, "when made ab end;", 2, 13);
        Check.termsFault(SMALL, "make una;", 3, 5);
        Check.termsFault(SMALL, "make a;", 3, 5);
        Check.termsFault(SMALL, "when made udo;end;", 3, 10);
        Check.termsFault(SMALL, "walk ab 0;", 3, 5);
        Check.termsFault(SMALL, "pick xy;", 3, 5);
        Check.termsFault(SMALL, "when gold ac=1;end;", 3, 10);
        Check.termsFault(SMALL, "walk una 3;", 4, 9);
        Check.termsFault(SMALL, "night 0;", 4, 6);
        Check.termsFault(SMALL, "night 41;", 4, 6);
        Check.termsFault(SMALL, "loop 0;end;", 4, 5);
        Check.termsFault(SMALL, "loop 100;end;", 4, 5);
        Check.termsFault(SMALL, "when crocus 3<1;end;", 4, 12);
        Check.termsFault(SMALL, Check.times("any;", 30) + "any", 6, 120);
        Check.termsFault(SMALL, Check.times("any;", 30) + "x", 2, 120);
        Check.termsFault(SMALL, Check.times("loop 1;end;", 15) + Check.times("any;", 15) + "\nloop", 6, 226);
        Check.termsFault(SMALL, "loop 1;loop 1;loop 1;" + Check.times("any;", 27) + "loop", 6, 129);
        Check.termsFault(SMALL, "loop 1;loop 1;loop 1;loop", 7, 21);
        Check.termsFault(SMALL, "loop 1;when made ab;loop 1;when", 7, 27);
    }

    private static void promise12() {
        SaffronCourt x = new SaffronCourt();
        Check.due("ahead of any", x.fault(0), NONE);
        Check.due("ahead of any", x.fault(1), NONE);
        x.court(1);
        Check.due("STATUS 1 is none", x.fault(0), NONE);
        Check.court(x, "bed;");
        Check.due("without one", x.fault(0), 0);
        Check.due("without one", x.fault(1), NONE);
        Check.terms(x, "any;pick x;");
        Check.due("of terms", x.fault(0), 3);
        Check.due("of terms", x.fault(1), 9);
        x.terms(301);
        Check.due("STATUS 1 changes nothing", x.fault(1), 9);
        Check.due("others", x.fault(2), NONE);
        Check.due("others", x.fault(-1), NONE);
        x.court(0);
        Check.due("of the latest", x.fault(0), 0);
    }

    private static void promise13() {
        SaffronCourt x = small();
        int[] first = {3, 4, 4, 2, 8, 0, 0, 9, 3, 5, 1};
        for (int what = 0; what < first.length; what++) {
            Check.due("told " + what, x, x.told(what), first[what], 0);
        }
        x.make(1);
        x.make(3);
        x.night(2);
        x.rule(3);
        x.pick(1);
        int[] then = {3, 4, 4, 2, 3, 2, 10, 8, 7, 8, 2};
        for (int what = 0; what < then.length; what++) {
            Check.due("told then " + what, x, x.told(what), then[what], 0);
        }
        Check.refused("what -1", x, x.told(-1), 1);
        Check.refused("what 11", x, x.told(11), 1);
    }

    private static void promise14To17() {
        SaffronCourt x = small();
        Check.due("crocuses", x, x.bed(2, 0), 4, 0);
        Check.due("shams", x, x.bed(0, 1), 2, 0);
        Check.refused("bed -1", x, x.bed(-1, 0), 1);
        Check.refused("bed 3", x, x.bed(3, 0), 1);
        Check.refused("bed what", x, x.bed(0, 2), 1);
        Check.refused("bed what", x, x.bed(0, -1), 1);
        Check.due("weight", x, x.weight(3), 4, 0);
        Check.refused("weight -1", x, x.weight(-1), 1);
        Check.refused("weight 4", x, x.weight(4), 1);
        Check.due("its bed", x, x.claim(1, 0), 2, 0);
        Check.due("its cost", x, x.claim(1, 1), 2, 0);
        Check.due("cost without", x, x.claim(0, 1), 1, 0);
        Check.due("its cases", x, x.claim(2, 2), 7, 0);
        Check.due("its yield", x, x.claim(2, 3), 3, 0);
        Check.due("yield of half", x, x.claim(0, 3), 6, 0);
        x.make(0);
        Check.due("yield of what is made", x, x.claim(0, 3), 0, 0);
        Check.due("yield by parts", x, x.claim(2, 3), 3, 0);
        Check.due("yield by parts", x, x.claim(1, 3), 6, 0);
        Check.refused("claim 4", x, x.claim(4, 0), 1);
        Check.refused("claim -1", x, x.claim(-1, 0), 1);
        Check.refused("claim what", x, x.claim(0, 4), 1);
        Check.refused("claim what", x, x.claim(0, -1), 1);
        Check.due("his bed", x, x.scholar(0, 0), 1, 0);
        Check.due("his gold", x, x.scholar(0, 1), 5, 0);
        Check.refused("scholar 2", x, x.scholar(2, 0), 1);
        Check.refused("scholar -1", x, x.scholar(-1, 0), 1);
        Check.refused("scholar what", x, x.scholar(0, 2), 1);
        Check.refused("scholar what", x, x.scholar(0, -1), 1);
    }

    private static void promise18To20() {
        SaffronCourt x = small();
        Check.refused("forget nothing", x, x.forget(), 7);
        Check.refused("claim -1", x, x.make(-1), 1);
        Check.refused("claim 4", x, x.make(4), 1);
        Check.due("make", x, x.make(2), 3, 0);
        Check.due("they come up", x, x.bed(0, 0), 8, 0);
        Check.refused("it is made", x, x.make(2), 7);
        Check.due("make behind it", x, x.make(0), 3, 0);
        Check.due("a barren one too", x, x.make(3), 0, 0);
        Check.due("made", x, x.told(6), 13, 0);
        Check.refused("claim 4", x, x.recant(4), 1);
        Check.refused("claim -1", x, x.recant(-1), 1);
        Check.refused("it is not made", x, x.recant(1), 7);
        Check.due("recant", x, x.recant(2), 2, 0);
        Check.due("the others are made", x, x.told(6), 9, 0);
        Check.due("crocuses stay", x, x.bed(0, 0), 8, 0);
        Check.due("forget", x, x.forget(), 2, 0);
        Check.due("none made", x, x.told(6), 0, 0);
        Check.refused("forget nothing", x, x.forget(), 7);
    }

    /** BEDS and GOLD have 9,999 at most; what is YIELDED and PICKED is told all the same. */
    private static void highest() {
        SaffronCourt x = Check.courtOf("bed crocus 99;scholar s at 0 gold 999;"
            + Check.times("case c# weight 1;", 8) + "claim k at 0 of ca cb cc cd;");
        Check.terms(x, "loop 99;make k;forget;end;");
        for (int i = 0; i < 8; i++) {
            Check.due("199 steps", x, x.live(i), 199, 0);
            Check.due("yielded", x, x.lived(1), 99 * 12, 0);
            Check.due("crocuses", x, x.bed(0, 0), 99 + (i + 1) * 99 * 12, 0);
        }
        x.live(0);
        Check.due("yielded beyond", x, x.lived(1), 99 * 12, 0);
        Check.due("9,999 at most", x, x.bed(0, 0), 9999, 0);
        Check.due("make beyond", x, x.make(0), 12, 0);
        Check.due("9,999 at most", x, x.bed(0, 0), 9999, 0);
        x.blind(0, 4, 4);
        Check.fraction("all crocuses", x, 1, 1);
        x.tray(0, 0, 1);
        Check.due("copy is cut", x, x.copyBeds(0), 1, 0);
        Check.due("9999 in 8 bits", x, x.read(0, 0), 15, 0);
        Check.due("pick", x, x.pick(0), 9999, 0);
        Check.due("gold has 9,999 at most", x, x.scholar(0, 1), 9999, 0);
    }

    private static void promise21And22() {
        SaffronCourt x = small();
        Check.refused("scholar 2", x, x.walk(2, 0), 1);
        Check.refused("scholar -1", x, x.walk(-1, 0), 1);
        Check.refused("bed 3", x, x.walk(0, 3), 1);
        Check.refused("bed -1", x, x.walk(0, -1), 1);
        Check.refused("he is there", x, x.walk(0, 1), 7);
        Check.refused("nothing to pick", x, x.pick(0), 7);
        Check.due("walk", x, x.walk(1, 2), 2, 0);
        Check.due("he is there", x, x.scholar(1, 0), 2, 0);
        Check.due("pick", x, x.pick(1), 4, 0);
        Check.due("gold", x, x.scholar(1, 1), 4, 0);
        Check.due("picked", x, x.bed(2, 0), 0, 0);
        Check.due("shams stay", x, x.bed(2, 1), 1, 0);
        Check.refused("nothing is left", x, x.pick(1), 7);
        Check.due("walk back", x, x.walk(1, 1), 1, 0);
        Check.refused("scholar 2", x, x.pick(2), 1);
        Check.refused("scholar -1", x, x.pick(-1), 1);
    }

    private static void promise23And24() {
        SaffronCourt x = small();
        Check.refused("0 nights", x, x.night(0), 1);
        Check.refused("100 nights", x, x.night(100), 1);
        Check.due("a night", x, x.night(1), 7, 0);
        Check.due("one withers", x, x.bed(0, 0), 4, 0);
        Check.due("a sham more", x, x.bed(0, 1), 3, 0);
        Check.due("none there, none more", x, x.bed(1, 1), 0, 0);
        Check.due("all wither", x, x.night(99), 0, 0);
        Check.due("as many as withered", x, x.bed(2, 1), 5, 0);
        for (int i = 0; i < 99; i++) {
            x.night(99);
        }
        Check.due("night 9901", x, x.told(5), 9901, 0);
        Check.refused("above 9,999", x, x.night(99), 4);
        Check.due("as a whole", x, x.told(5), 9901, 0);
        Check.due("to 9,999", x, x.night(98), 0, 0);
        Check.refused("no more", x, x.night(1), 4);
        SaffronCourt y = Check.courtOf("bed crocus 99 sham 98;bed;");
        y.night(5);
        Check.due("99 shams at most", y, y.bed(0, 1), 99, 0);
        Check.refused("bed 2", y, y.weed(2), 1);
        Check.refused("bed -1", y, y.weed(-1), 1);
        Check.refused("no shams", y, y.weed(1), 7);
        Check.due("weed", y, y.weed(0), 99, 0);
        Check.due("weeded", y, y.bed(0, 1), 0, 0);
        Check.refused("no shams", y, y.weed(0), 7);
        Check.due("crocuses stay", y, y.bed(0, 0), 94, 0);
    }

    private static void promise25To28() {
        SaffronCourt x = small();
        Check.denied("claim 4", x, x.teach(4, 0, true), 1);
        Check.denied("claim -1", x, x.teach(-1, 0, true), 1);
        Check.denied("case 4", x, x.teach(0, 4, true), 1);
        Check.denied("case -1", x, x.teach(0, -1, true), 1);
        Check.denied("it is so", x, x.teach(0, 0, true), 7);
        Check.denied("it is so", x, x.teach(0, 3, false), 7);
        x.make(0);
        Check.due("two parts", x, x.told(10), 2, 0);
        Check.done("true", x, x.teach(0, 2, true));
        Check.done("true", x, x.teach(0, 3, true));
        Check.due("one part", x, x.told(10), 1, 0);
        Check.done("not", x, x.teach(0, 0, false));
        Check.due("of", x, x.claim(0, 2), 14, 0);

        Check.refused("case 4", x, x.weigh(4, 1), 1);
        Check.refused("case -1", x, x.weigh(-1, 1), 1);
        Check.refused("weight 0", x, x.weigh(0, 0), 1);
        Check.refused("weight 21", x, x.weigh(0, 21), 1);
        Check.due("what it was", x, x.weigh(2, 20), 3, 0);
        Check.due("from now on", x, x.weight(2), 20, 0);
        Check.due("what it was", x, x.weigh(2, 1), 20, 0);
        Check.due("from now on", x, x.weight(2), 1, 0);

        Check.refused("no such case", x, x.think(16, 0, 1), 1);
        Check.refused("below 0", x, x.think(-1, 0, 1), 1);
        Check.refused("bed 3", x, x.think(1, 3, 1), 1);
        Check.refused("cost 0", x, x.think(1, 0, 0), 1);
        Check.refused("cost 10", x, x.think(1, 0, 10), 1);
        Check.due("think", x, x.think(15, 2, 9), 4, 0);
        Check.due("its bed", x, x.claim(4, 0), 2, 0);
        Check.due("its cost", x, x.claim(4, 1), 9, 0);
        Check.due("its cases", x, x.claim(4, 2), 15, 0);
        Check.due("not made", x, x.told(6), 1, 0);
        Check.due("of none", x, x.think(0, 0, 1), 5, 0);
        Check.due("seventh", x, x.think(1, 0, 1), 6, 0);
        Check.refused("what was thought has no name", x, Check.terms(x, "make a;"), 9);
        Check.due("what was thought has no name", x.fault(0), 3);
        Check.refused("eighth", x, x.think(1, 0, 1), 4);
        Check.refused("1 ahead of 4", x, x.think(1, 0, 0), 1);
        Check.due("seven", x, x.told(2), 7, 0);

        Check.denied("odds -1", x, x.rule(-1), 1);
        Check.denied("odds 17", x, x.rule(17), 1);
        Check.done("rule", x, x.rule(0));
        Check.due("odds", x, x.told(4), 0, 0);
        Check.done("rule", x, x.rule(16));
        Check.due("odds", x, x.told(4), 16, 0);
    }

    private static void promise29To32() {
        SaffronCourt x = small();
        Check.due("one part", x, x.partOf(3), 15, 0);
        Check.due("couples", x, x.couples(), 6, 0);
        Check.due("barren", x, x.barren(), 8, 0);
        x.make(2);
        Check.due("part", x, x.partOf(0), 7, 0);
        Check.due("part", x, x.partOf(3), 8, 0);
        Check.due("couples", x, x.couples(), 3, 0);
        x.make(1);
        Check.due("part", x, x.partOf(2), 5, 0);
        Check.due("part", x, x.partOf(1), 2, 0);
        Check.due("couples", x, x.couples(), 1, 0);
        x.make(0);
        Check.due("parts", x, x.told(10), 4, 0);
        Check.due("barren are not those made", x, x.barren(), 8, 0);
        x.recant(0);
        Check.done("true of the same as what is made", x, x.teach(0, 1, false));
        Check.done("true of the same as what is made", x, x.teach(0, 2, true));
        Check.due("barren are the first and the last", x, x.barren(), 9, 0);
        Check.done("as it was", x, x.teach(0, 1, true));
        Check.done("as it was", x, x.teach(0, 2, false));
        x.forget();
        x.make(3);
        Check.due("none barren", x, x.barren(), 0, 0);
        Check.refused("case 4", x, x.partOf(4), 1);
        Check.refused("case -1", x, x.partOf(-1), 1);
        Check.due("parting", x, x.parting(0, 1), 2, 0);
        Check.due("parting", x, x.parting(3, 0), 7, 0);
        Check.refused("one and itself", x, x.parting(2, 2), 1);
        Check.refused("case 4", x, x.parting(0, 4), 1);
        Check.refused("case 4", x, x.parting(4, 0), 1);
        Check.refused("case -1", x, x.parting(-1, 0), 1);
    }

    private static void promise33And34() {
        SaffronCourt x = small();
        int[] most = {0, 6, 12, 12};
        for (int n = 0; n < 4; n++) {
            Check.due("most " + n, x, x.most(n), most[n], 0);
        }
        Check.refused("n 4", x, x.most(4), 1);
        Check.refused("n -1", x, x.most(-1), 1);
        Check.due("first", x, x.first(2, 0), 0, 0);
        Check.due("second", x, x.first(2, 1), 1, 0);
        Check.due("it ends", x, x.first(3, 1), 1, 0);
        Check.refused("it ends", x, x.first(3, 2), 6);
        Check.refused("no such", x, x.first(0, 0), 6);
        Check.refused("no such", x, x.first(3, Integer.MAX_VALUE), 6);
        Check.refused("k -1", x, x.first(1, -1), 1);
        Check.refused("n 4", x, x.first(4, 0), 1);
        x.make(0);
        Check.due("as all is now", x, x.most(3), 6, 0);
        Check.due("as all is now", x, x.first(3, 0), 1, 0);
        Check.due("nothing changes", x, x.told(6), 1, 0);
        // A claim that yields nothing may come ahead in the first row.
        SaffronCourt y = Check.courtOf("bed;case a weight 1;case b weight 1;claim c at 0 of;claim d at 0 of a;");
        Check.due("one", y, y.first(1, 0), 1, 0);
        Check.due("by claims, one by one", y, y.first(2, 0), 0, 0);
        Check.due("by claims, one by one", y, y.first(2, 1), 1, 0);
    }

    private static void promise35And36() {
        SaffronCourt x = small();
        Check.due("of none", x, x.fewest(0), 0, 0);
        Check.due("of none", x, x.fewestSet(0), 0, 0);
        Check.due("of one", x, x.fewestSet(8), 0, 0);
        Check.due("of all", x, x.fewest(15), 2, 0);
        Check.due("of all", x, x.fewestSet(15), 3, 0);
        Check.due("of two", x, x.fewest(9), 1, 0);
        Check.due("least as a number", x, x.fewestSet(9), 1, 0);
        x.make(0);
        Check.due("made or not", x, x.fewestSet(9), 1, 0);
        Check.refused("no such case", x, x.fewest(16), 1);
        Check.refused("below 0", x, x.fewestSet(-1), 1);
        SaffronCourt y = Check.courtOf("bed;case a weight 1;case b weight 1;case c weight 1;claim d at 0 of a;");
        Check.refused("not by all", y, y.fewest(6), 6);
        Check.refused("not by all", y, y.fewestSet(7), 6);
        Check.due("these by it", y, y.fewestSet(5), 1, 0);
    }

    /** Eight cases, of seven of which one claim each is true: each is parted by its own claim alone. */
    private static void wholeCourt() {
        StringBuilder text = new StringBuilder("bed;" + Check.times("case # weight 1;", 8));
        for (char c = 'a'; c < 'h'; c++) {
            text.append("claim k").append(c).append(" at 0 of ").append(c).append(";");
        }
        SaffronCourt x = Check.courtOf(text.toString());
        Check.due("all seven", x, x.fewest(255), 7, 0);
        Check.due("all seven", x, x.fewestSet(255), 127, 0);
        Check.due("one behind the other", x, x.deep(255), 7, 0);
        Check.due("dear", x, x.dear(255), 8 + 7 + 6 + 5 + 4 + 3 + 2, 0);
        Check.due("couples", x, x.couples(), 28, 0);
        Check.due("most", x, x.most(3), 9, 0);
        Check.due("game", x, x.game(4), 0, 0);
        Check.due("game", x, x.game(3), 3, 0);
        for (int claim = 0; claim < 7; claim++) {
            Check.due("make", x, x.make(claim), 3, 0);
        }
        Check.due("parts", x, x.told(10), 8, 0);
        Check.due("couples", x, x.couples(), 0, 0);
        Check.due("nothing more", x, x.most(3), 0, 0);
    }

    private static void promise37To40() {
        Check.due("ask at once", small().askDeep(15), 0);
        Check.due("ask at once", small().askDear(15), 0);
        SaffronCourt x = small();
        Check.due("deep", x, x.deep(15), 2, 0);
        Check.due("ask", x, x.askDeep(15), 0, 0);
        Check.due("dear", x, x.dear(15), 30, 0);
        Check.due("ask", x, x.askDear(15), 0, 0);
        Check.due("one case", x, x.deep(4), 0, 0);
        Check.due("one case", x, x.dear(4), 0, 0);
        Check.refused("one case", x, x.askDeep(4), 6);
        Check.refused("one case", x, x.askDear(4), 6);
        for (int set : new int[] {0, 16, -1, Integer.MIN_VALUE}) {
            Check.refused("no set", x, x.deep(set), 1);
            Check.refused("no set", x, x.askDeep(set), 1);
            Check.refused("no set", x, x.dear(set), 1);
            Check.refused("no set", x, x.askDear(set), 1);
        }
        SaffronCourt y = Check.courtOf("bed;case a weight 20;case b weight 1;case c weight 1;case d weight 1;"
            + "claim ab at 0 of a b;claim ac at 0 cost 9 of a c;claim aa at 0 of a;claim bb at 0 of b;claim cc at 0 of c;");
        Check.due("deep", y, y.deep(15), 2, 0);
        Check.due("ask", y, y.askDeep(15), 0, 0);
        Check.due("dear: the heaviest first", y, y.dear(15), 28, 0);
        Check.due("ask", y, y.askDear(15), 2, 0);
        Check.due("dear of a part", y, y.dear(14), 5, 0);
        Check.due("least of several", y, y.askDear(14), 0, 0);
        SaffronCourt z = Check.courtOf("bed;case a weight 1;case b weight 1;case c weight 1;claim d at 0 of a;");
        Check.refused("no tree", z, z.deep(7), 6);
        Check.refused("no tree", z, z.askDeep(7), 6);
        Check.refused("no tree", z, z.dear(6), 6);
        Check.refused("no tree", z, z.askDear(6), 6);
        Check.due("a tree", z, z.deep(3), 1, 0);
    }

    private static void tell(SaffronCourt x, long... numbers) {
        x.tray(0, 3, numbers.length);
        for (int i = 0; i < numbers.length; i++) {
            x.write(0, i, numbers[i]);
        }
    }

    private static void promise41To44() {
        SaffronCourt x = small();
        tell(x, 0, 1, 1, 0, 0, 0);
        Check.due("of nothing told", x, x.fits(0, 0), 15, 0);
        Check.due("of one", x, x.fits(0, 1), 3, 0);
        Check.due("of two", x, x.fits(0, 2), 2, 0);
        Check.due("of three", x, x.fits(0, 3), 0, 0);
        Check.due("likely", x, x.likely(0, 1), 1, 0);
        Check.done("odds", x, x.oddsThat(0, 1, 1));
        Check.fraction("odds", x, 2, 3);
        Check.done("odds of others", x, x.oddsThat(0, 1, 3));
        Check.fraction("odds of others", x, 0, 1);
        Check.done("odds for sure", x, x.oddsThat(0, 2, 1));
        Check.fraction("odds for sure", x, 1, 1);
        Check.due("next", x, x.next(0, 0), 0, 0);
        Check.due("next", x, x.next(0, 1), 1, 0);
        Check.refused("one fits", x, x.next(0, 2), 6);
        Check.refused("none fit", x, x.next(0, 3), 6);
        Check.refused("none fit", x, x.likely(0, 3), 6);
        Check.denied("none fit", x, x.oddsThat(0, 3, 0), 6);
        Check.fraction("stays", x, 1, 1);
        x.weigh(0, 2);
        Check.due("likely, the first", x, x.likely(0, 1), 0, 0);
        tell(x, 0, 1, 1, 1, 2, 1, 3, 0);
        Check.due("four twos", x, x.fits(0, 4), 1, 0);
        tell(x, 3, 0, 0, 0, 1, 0);
        Check.due("three twos", x, x.fits(0, 3), 8, 0);
        Check.due("two twos", x, x.fits(0, 2), 12, 0);
        hindered(x);
        SaffronCourt y = Check.courtOf("bed;case a weight 1;case b weight 1;claim c at 0 of a b;");
        y.tray(0, 0, 0);
        Check.refused("no claim parts them", y, y.next(0, 0), 6);
    }

    private static void hindered(SaffronCourt x) {
        for (int n : new int[] {-1, 21}) {
            Check.refused("n", x, x.fits(0, n), 1);
            Check.refused("n", x, x.likely(0, n), 1);
            Check.denied("n", x, x.oddsThat(0, n, 0), 1);
            Check.refused("n", x, x.next(0, n), 1);
        }
        for (int tray : new int[] {-1, 4}) {
            Check.refused("tray", x, x.fits(tray, 0), 1);
            Check.refused("tray", x, x.likely(tray, 0), 1);
            Check.denied("tray", x, x.oddsThat(tray, 0, 0), 1);
            Check.refused("tray", x, x.next(tray, 0), 1);
        }
        Check.denied("case", x, x.oddsThat(3, 0, 4), 1);
        Check.denied("case", x, x.oddsThat(3, 0, -1), 1);
        Check.refused("missing", x, x.fits(3, 0), 2);
        Check.refused("missing", x, x.likely(3, 0), 2);
        Check.denied("missing", x, x.oddsThat(3, 0, 0), 2);
        Check.refused("missing", x, x.next(3, 0), 2);
        tell(x, 4, 1, 0);
        Check.refused("too few", x, x.fits(0, 2), 3);
        Check.refused("too few", x, x.likely(0, 2), 3);
        Check.denied("too few", x, x.oddsThat(0, 2, 0), 3);
        Check.refused("too few", x, x.next(0, 2), 3);
        for (long[] numbers : new long[][] {{4, 1}, {-1, 1}, {0, 2}, {0, -1}, {1L << 32, 0}, {0, 1L << 32}}) {
            tell(x, numbers);
            Check.refused("can't be", x, x.fits(0, 1), 5);
            Check.refused("can't be", x, x.likely(0, 1), 5);
            Check.denied("can't be", x, x.oddsThat(0, 1, 0), 5);
            Check.refused("can't be", x, x.next(0, 1), 5);
            Check.due("is not asked", x, x.fits(0, 0), 15, 0);
        }
    }

    private static void promise45And46() {
        SaffronCourt x = small();
        int[] gathered = {0, 5, 5, 9, 9};
        int[] brisk = {0, 1, 1, 3, 3};
        for (int n = 0; n < 5; n++) {
            Check.due("gather " + n, x, x.gather(0, n), gathered[n], 0);
            Check.due("brisk " + n, x, x.brisk(0, n), brisk[n], 0);
        }
        Check.due("his own first", x, x.gather(1, 0), 5, 0);
        Check.due("to the other end", x, x.gather(1, 12), 9, 0);
        Check.due("by two", x, x.brisk(1, 12), 2, 0);
        Check.due("nothing changes", x, x.told(7), 9, 0);
        Check.refused("n 13", x, x.gather(0, 13), 1);
        Check.refused("n -1", x, x.gather(0, -1), 1);
        Check.refused("scholar 2", x, x.gather(2, 0), 1);
        Check.refused("n 13", x, x.brisk(0, 13), 1);
        Check.refused("n -1", x, x.brisk(0, -1), 1);
        Check.refused("scholar -1", x, x.brisk(-1, 0), 1);
        SaffronCourt y = Check.courtOf("bed crocus 1;bed crocus 2;bed;bed crocus 4;bed crocus 8;bed crocus 16;scholar s at 2;");
        Check.due("up alone", y, y.gather(0, 4), 28, 0);
        Check.due("down first, then up", y, y.gather(0, 5), 30, 0);
        Check.due("down first, then up", y, y.brisk(0, 6), 5, 0);
        Check.due("all", y, y.gather(0, 7), 31, 0);
        Check.due("all", y, y.brisk(0, 12), 7, 0);
    }

    private static void promise47And48() {
        SaffronCourt x = small();
        Check.due("no turns", x, x.game(0), 0, 0);
        Check.due("one turn", x, x.game(1), 6, 0);
        Check.due("his first", x, x.moveOf(1), 0, 0);
        Check.due("two turns", x, x.game(2), 0, 0);
        Check.due("as good, the first", x, x.moveOf(2), 0, 0);
        Check.refused("n 5", x, x.game(5), 1);
        Check.refused("n -1", x, x.game(-1), 1);
        Check.refused("n 0", x, x.moveOf(0), 1);
        Check.refused("n 5", x, x.moveOf(5), 1);
        SaffronCourt y = Check.courtOf("bed;case a weight 1;case b weight 1;case c weight 1;case d weight 1;"
            + "claim k at 0 of a;claim l at 0 of a b;");
        Check.due("one", y, y.game(1), 6, 0);
        Check.due("move", y, y.moveOf(1), 1, 0);
        Check.due("two", y, y.game(2), 3, 0);
        Check.due("move", y, y.moveOf(2), 1, 0);
        Check.due("three", y, y.game(3), 3, 0);
        Check.due("four", y, y.game(4), 3, 0);
        Check.due("nothing changes", y, y.told(6), 0, 0);
        y.make(0);
        y.make(1);
        Check.due("nothing is left", y, y.game(4), 0, 0);
        Check.refused("none", y, y.moveOf(4), 6);
        Check.due("move at once", Check.courtOf("bed;case a weight 1;case b weight 1;claim k at 0 of;claim l at 0 of a;").moveOf(1), 1);
        SaffronCourt z = Check.courtOf("bed;case a weight 1;claim k at 0 of a;claim l at 0 of;");
        Check.due("for nothing", z, z.game(1), 0, 0);
        Check.due("none comes last", z, z.moveOf(1), 0, 0);
        z.make(0);
        Check.due("none comes last", z, z.moveOf(4), 1, 0);
    }

    private static void promise49And50() {
        SaffronCourt x = small();
        Check.denied("bed 3", x, x.blind(3, 0, 0), 1);
        Check.denied("bed -1", x, x.blind(-1, 0, 0), 1);
        Check.denied("n 5", x, x.blind(0, 5, 0), 1);
        Check.denied("n -1", x, x.blind(0, -1, 0), 1);
        Check.denied("k 5", x, x.blind(0, 0, 5), 1);
        Check.denied("k -1", x, x.blind(0, 0, -1), 1);
        Check.denied("not so many", x, x.blind(1, 1, 0), 6);
        Check.done("none of none", x, x.blind(1, 0, 0));
        Check.fraction("none of none", x, 1, 1);
        Check.done("more than are taken", x, x.blind(0, 1, 2));
        Check.fraction("more than are taken", x, 0, 1);
        Check.done("all four", x, x.blind(0, 4, 4));
        Check.fraction("all four", x, 1, 7);
        Check.done("two at least", x, x.blind(0, 4, 2));
        Check.fraction("two are sure", x, 1, 1);
        Check.done("three at least", x, x.blind(0, 4, 3));
        Check.fraction("three at least", x, 5, 7);
        Check.done("all but one", x, x.blind(2, 4, 4));
        Check.fraction("all but one", x, 1, 5);

        Check.denied("scholar 2", x, x.share(2), 1);
        Check.denied("scholar -1", x, x.share(-1), 1);
        x.pick(1);
        Check.done("share", x, x.share(0));
        Check.fraction("share", x, 1, 2);
        SaffronCourt y = Check.courtOf("bed;scholar s at 0;");
        Check.denied("no gold", y, y.share(0), 6);
        Check.fraction("stays", y, 0, 1);
    }

    private static void promise51() {
        SaffronCourt x = small();
        Check.refused("tray 4", x, x.copyBeds(4), 1);
        Check.refused("tray -1", x, x.copyBeds(-1), 1);
        Check.refused("missing", x, x.copyBeds(1), 2);
        x.tray(1, 2, 2);
        Check.refused("too few", x, x.copyBeds(1), 3);
        Check.due("nothing came", x, x.read(1, 0), 0, 0);
        x.tray(1, 2, 4);
        x.write(1, 3, 77);
        x.write(1, 1, 77);
        Check.due("copy", x, x.copyBeds(1), 3, 0);
        long[] due = {5, 0, 4, 77};
        for (int i = 0; i < 4; i++) {
            Check.due("copied", x, x.read(1, i), due[i], 0);
        }
    }

    private static void promise52And53() {
        SaffronCourt x = small();
        Check.refused("seed -1", x, x.live(-1), 1);
        Check.refused("seed 10000", x, x.live(10000), 1);
        Check.refused("no terms", x, x.live(0), 6);
        Check.refused("what -1", x, x.lived(-1), 1);
        Check.refused("what 5", x, x.lived(5), 1);
        Check.refused("none", x, x.lived(0), 6);
        Check.terms(x, "make ab;make ab;walk una 1;walk una 2;pick una;pick una;night 3;"
            + "when made ab;forget;end;forget;when made ab;stop;end;when gold una>8;pick udo;end;"
            + "when gold una>9;pick udo;end;when crocus 1=3;walk udo 1;end;when crocus 1<3;walk udo 2;end;");
        Check.due("steps", x, x.live(9999), 17, 0);
        livedIs(x, 4, 6, 6, 3, 0);
        Check.due("una", x, x.scholar(0, 1), 9, 0);
        Check.due("udo", x, x.scholar(1, 1), 2, 0);
        Check.due("udo is there", x, x.scholar(1, 0), 1, 0);
        Check.due("night", x, x.told(5), 3, 0);
        x.live(-1);
        livedIs(x, 4, 6, 6, 3, 0);
        Check.terms(x, "");
        Check.due("terms of no step", x, x.live(1), 0, 0);
        livedIs(x, 0, 0, 0, 0, 0);
    }

    private static void livedIs(SaffronCourt x, int... due) {
        for (int what = 0; what < due.length; what++) {
            Check.due("lived " + what, x, x.lived(what), due[what], 0);
        }
    }

    private static void limits() {
        SaffronCourt x = small();
        Check.terms(x, "loop 99;loop 99;end;loop 1;end;end;");
        Check.due("loops without a step", x, x.live(0), 199, 0);
        livedIs(x, 0, 0, 0, 0, 0);
        Check.terms(x, "loop 99;loop 1;forget;end;end;loop 99;forget;end;loop 1;end;stop;");
        Check.due("1 + 198 + 1 + 99 = 299, then a loop", x, x.live(0), 300, 0);
        livedIs(x, 198, 0, 0, 0, 1);
        Check.terms(x, "loop 99;forget;end;loop 99;forget;end;loop 99;forget;end;");
        Check.due("300 and none left", x, x.live(0), 300, 0);
        livedIs(x, 297, 0, 0, 0, 0);
        Check.terms(x, "loop 99;forget;end;loop 99;forget;end;loop 98;forget;end;stop;");
        Check.due("300 with stop the last", x, x.live(0), 300, 0);
        livedIs(x, 296, 0, 0, 0, 0);
        Check.terms(x, "loop 99;forget;end;loop 99;forget;end;loop 99;forget;end;stop;");
        Check.due("a stop is left", x, x.live(0), 300, 0);
        livedIs(x, 297, 0, 0, 0, 1);
        Check.terms(x, "loop 99;when made ab;stop;end;loop 2;forget;end;end;");
        Check.due("a step in a loop is left", x, x.live(0), 300, 0);
        Check.due("left", x, x.lived(4), 1, 0);
        Check.terms(x, "loop 99;loop 99;night 40;end;end;");
        x.live(0);
        Check.due("nights beyond 9,999", x, x.lived(3), 249 * 40, 0);
        Check.due("as a whole", x, x.told(5), 9960, 0);
        Check.due("missed", x, x.lived(0), 296 - 249, 0);
        Check.terms(x, "stop;any;");
        Check.due("stop", x, x.live(0), 1, 0);
        livedIs(x, 0, 0, 0, 0, 0);
    }

    private static void draws() {
        SaffronCourt x = Check.courtOf("odds 8;bed crocus 3;bed crocus 2;case a weight 1;case b weight 1;"
            + "claim k at 0 of a;claim l at 1 of b;claim m at 1 of;scholar s at 0;scholar t at 1;");
        Check.terms(x, "any;");
        for (int seed = 0; seed < 60; seed++) {
            int s = (seed * 3229 + 11453) % 65536;
            int claim = s / 8 % 3;
            s = (s * 3229 + 11453) % 65536;
            int scholar = s / 8 % 2;
            s = (s * 3229 + 11453) % 65536;
            boolean makes = s / 8 % 16 < 8;
            x.mark();
            Check.due("a step", x, x.live(seed), 1, 0);
            Check.due("made", x, x.told(6), makes ? 1 << claim : 0, 0);
            Check.due("gold", x, x.scholar(scholar, 1), makes ? 0 : 3 - scholar, 0);
            livedIs(x, 0, makes && claim != 2 ? 3 : 0, makes ? 0 : 3 - scholar, 0, 0);
            x.undo();
        }
        x.rule(0);
        x.live(0);
        Check.due("never made by odds 0", x, x.told(6), 0, 0);
        x.rule(16);
        x.live(1);
        Check.due("always made by odds 16", x, Integer.bitCount(x.told(6)), 1, 0);
        SaffronCourt y = Check.courtOf("bed crocus 1;scholar s at 0;");
        Check.terms(y, "any;");
        Check.due("without claims", y, y.live(0), 1, 0);
        livedIs(y, 1, 0, 0, 0, 0);
        Check.due("one claim without cases", y, y.think(0, 0, 1), 0, 0);
        y.rule(0);
        Check.due("what was thought is drawn", y, y.live(0), 1, 0);
        livedIs(y, 0, 0, 1, 0, 0);
        SaffronCourt z = Check.courtOf("bed crocus 1;claim c at 0 of;");
        Check.terms(z, "any;");
        Check.due("without scholars", z, z.live(0), 1, 0);
        livedIs(z, 1, 0, 0, 0, 0);
    }

    private static void promise54() {
        SaffronCourt x = small();
        Check.denied("no terms", x, x.mean(0, 1), 6);
        Check.terms(x, "any;any;walk una 0;pick una;");
        Check.denied("seed -1", x, x.mean(-1, 1), 1);
        Check.denied("seed 10000", x, x.mean(10000, 1), 1);
        Check.denied("many 0", x, x.mean(0, 0), 1);
        Check.denied("many 21", x, x.mean(0, 21), 1);
        Check.denied("the last above 9,999", x, x.mean(9981, 20), 1);
        Check.done("the last is 9,999", x, x.mean(9980, 20));
        Check.denied("far out", x, x.mean(Integer.MAX_VALUE, 20), 1);
        Check.refused("mean is no live", x, x.lived(0), 6);
        Check.due("all stays", x, x.told(9), 5, 0);
        Check.due("all stays", x, x.told(6), 0, 0);
        for (int many = 1; many <= 20; many++) {
            long gold = 0;
            for (int seed = 100; seed < 100 + many; seed++) {
                x.mark();
                x.live(seed);
                gold += x.told(9);
                x.undo();
            }
            x.mean(100, many);
            Check.due("mean", x.top() * many, gold * x.bottom());
        }
        x.mean(0, 1);
        Check.due("bottom of a whole", x.bottom(), 1);
    }

    private static void promise55And56() {
        SaffronCourt x = small();
        Check.refused("none", x, x.undo(), 6);
        Check.terms(x, "pick udo;");
        Check.due("mark", x, x.mark(), 1, 0);
        x.make(0);
        Check.due("mark", x, x.mark(), 2, 0);
        Check.court(x, "bed;scholar udo at 0;");
        Check.terms(x, "any;any;");
        Check.due("mark", x, x.mark(), 3, 0);
        Check.refused("a fourth", x, x.mark(), 4);
        x.live(1);
        x.tray(2, 0, 1);
        x.write(2, 0, 5);
        x.feed(0, 0, 0, 0, 0);
        Check.due("undo", x, x.undo(), 2, 0);
        Check.due("of the new one", x, x.told(0), 1, 0);
        Check.due("undo", x, x.undo(), 1, 0);
        Check.due("made", x, x.told(6), 1, 0);
        Check.due("trays stay", x, x.read(2, 0), 5, 0);
        Check.due("the tape stays", x.feed(0, 0, 0, 0, 0), 40);
        Check.due("lived stays", x, x.lived(0), 2, 0);
        Check.due("names are back", x, x.court(-1), NONE, 1);
        x.terms(0);
        Check.due("names are back", x, Check.terms(x, "make ac;pick una;"), 2, 0);
        Check.due("undo", x, x.undo(), 0, 0);
        Check.due("not made", x, x.told(6), 0, 0);
        Check.due("the first terms", x, x.live(0), 1, 0);
        Check.due("by them", x, x.scholar(1, 1), 5, 0);
        Check.refused("none", x, x.undo(), 6);
        x.rule(3);
        x.weigh(0, 9);
        x.mark();
        x.rule(4);
        x.weigh(0, 8);
        x.weed(0);
        x.walk(0, 2);
        x.teach(0, 0, false);
        x.think(1, 0, 1);
        x.night(7);
        x.undo();
        Check.due("odds", x, x.told(4), 3, 0);
        Check.due("weight", x, x.weight(0), 9, 0);
        Check.due("shams", x, x.bed(0, 1), 2, 0);
        Check.due("bed", x, x.scholar(0, 0), 1, 0);
        Check.due("of", x, x.claim(0, 2), 3, 0);
        Check.due("claims", x, x.told(2), 4, 0);
        Check.due("night", x, x.told(5), 0, 0);
    }

    public static void main(String[] args) {
        Check.due("NONE", SaffronCourt.NONE, -1);
        promise01();
        promise02();
        promise03And04();
        promise05();
        promise06And07();
        promise08();
        promise09();
        promise10();
        courtTexts();
        courtFaults();
        promise11();
        termsFaults();
        promise12();
        promise13();
        promise14To17();
        promise18To20();
        highest();
        promise21And22();
        promise23And24();
        promise25To28();
        promise29To32();
        promise33And34();
        promise35And36();
        wholeCourt();
        promise37To40();
        promise41To44();
        promise45And46();
        promise47And48();
        promise49And50();
        promise51();
        promise52And53();
        limits();
        draws();
        promise54();
        promise55And56();
        Check.end();
    }
}
