import java.util.Arrays;

/** A court in which saffron comes up from what is argued; ../shared/DOC.md says what each call must do. */
public final class SaffronCourt {
    public static final int NONE = -1;

    private static final int FINE = 0;
    private static final int WRONG = 1;
    private static final int MISSING = 2;
    private static final int SHORT = 3;
    private static final int TOO_MANY = 4;
    private static final int ODD_NUMBER = 5;
    private static final int ABSENT = 6;
    private static final int CANNOT = 7;
    private static final int UNLIKE = 8;
    private static final int FAULTY = 9;

    private static final int MOST_TRAYS = 4;
    private static final int MOST_SORT = 3;
    private static final int MOST_NUMBERS = 60;
    private static final int MOST_TAPE = 900;
    private static final int MOST_TERMS_TEXT = 300;
    private static final int FED_AT_ONCE = 20;
    private static final int MOST_BEDS = 6;
    private static final int MOST_CASES = 8;
    private static final int MOST_CLAIMS = 7;
    private static final int MOST_SCHOLARS = 4;
    private static final int MOST_MARKS = 3;
    private static final int MOST_CROCUSES = 9999;
    private static final int MOST_GOLD = 9999;
    private static final int MOST_NIGHT = 9999;
    private static final int MOST_SHAMS = 99;
    private static final int MOST_ODDS = 16;
    private static final int USUAL_ODDS = 8;
    private static final int MOST_WEIGHT = 20;
    private static final int MOST_COST = 9;
    private static final int MOST_NIGHTS = 99;
    private static final int MOST_SEED = 9999;
    private static final int MOST_SEEDS = 20;
    private static final int MOST_TWOS = 20;
    private static final int MOST_ROW = 3;
    private static final int MOST_TURNS = 4;
    private static final int MOST_TAKEN = 4;
    private static final int MOST_WALK = 12;
    private static final int MOST_STEPS = 30;
    private static final int MOST_NESTED = 3;
    private static final int MOST_DONE = 300;
    private static final int LIVED_NUMBERS = 5;
    private static final int SETS_OF_CASES = 256;
    private static final int SETS_OF_CLAIMS = 128;

    private static final String KEYWORD_TEXT = "odds bed crocus sham case weight claim at cost of scholar gold make walk pick night forget any when made loop end stop ";
    private static final int ODDS = 0;
    private static final int BED = 1;
    private static final int CROCUS = 2;
    private static final int SHAM = 3;
    private static final int CASE = 4;
    private static final int WEIGHT = 5;
    private static final int CLAIM = 6;
    private static final int AT = 7;
    private static final int COST = 8;
    private static final int OF = 9;
    private static final int SCHOLAR = 10;
    private static final int GOLD = 11;
    private static final int MAKE = 12;
    private static final int WALK = 13;
    private static final int PICK = 14;
    private static final int NIGHT = 15;
    private static final int FORGET = 16;
    private static final int ANY = 17;
    private static final int WHEN = 18;
    private static final int MADE = 19;
    private static final int LOOP = 20;
    private static final int END = 21;
    private static final int STOP = 22;
    private static final int KEYWORDS = 23;

    private final Tray[] trays = new Tray[MOST_TRAYS];
    private final byte[] tape = new byte[MOST_TAPE];
    private final Court now = new Court();
    private final Terms agreed = new Terms();
    private final Court[] markedCourts = new Court[MOST_MARKS];
    private final Terms[] markedTerms = new Terms[MOST_MARKS];
    // Texts are read into spare ones, so that a FAULT leaves the old ones as they are.
    private final Court spareCourt = new Court();
    private final Terms spareTerms = new Terms();
    private final Tokens tokens = new Tokens(tape);
    private final CourtReader courtReader = new CourtReader(tokens, spareCourt);
    private final TermsReader termsReader = new TermsReader(tokens, spareTerms, now);
    private final Life life = new Life(agreed, now);
    private final Trees trees = new Trees(now);
    private final Forecast forecast = new Forecast(now);
    private final Fraction fraction = new Fraction();
    private int status;
    private int faultKind = NONE;
    private int faultPlace = NONE;
    private int tapeLength;
    private int marks;

    public SaffronCourt() {
        for (int i = 0; i < MOST_TRAYS; i++) {
            trays[i] = new Tray();
        }
        for (int i = 0; i < MOST_MARKS; i++) {
            markedCourts[i] = new Court();
            markedTerms[i] = new Terms();
        }
    }

    public int status() {
        return status;
    }

    public long top() {
        return fraction.over;
    }

    public long bottom() {
        return fraction.under;
    }

    // ---- TRAYS

    public boolean tray(int tray, int sort, int many) {
        if (!isTray(tray) || !isWithin(sort, 0, MOST_SORT) || !isWithin(many, 0, MOST_NUMBERS)) {
            return deny(WRONG);
        }
        trays[tray].lay(sort, many);
        return grant();
    }

    public boolean write(int tray, int place, long v) {
        int hindrance = hindranceAt(tray, place);
        if (hindrance != FINE) {
            return deny(hindrance);
        }
        trays[tray].put(place, v);
        return grant();
    }

    public long read(int tray, int place) {
        int hindrance = hindranceAt(tray, place);
        if (hindrance != FINE) {
            return refuse(hindrance);
        }
        status = FINE;
        return trays[tray].numbers[place];
    }

    public boolean pour(int from, int place, int to, int at, int many) {
        if (!isTray(from) || !isTray(to) || place < 0 || at < 0 || many < 0) {
            return deny(WRONG);
        }
        Tray source = trays[from];
        Tray target = trays[to];
        if (!source.isThere || !target.isThere) {
            return deny(MISSING);
        }
        if (source.sort != target.sort) {
            return deny(UNLIKE);
        }
        if (!source.spans(place, many) || !target.spans(at, many)) {
            return deny(SHORT);
        }
        System.arraycopy(source.numbers, place, target.numbers, at, many);
        return grant();
    }

    // ---- texts

    public int feed(int a, int b, int c, int d, int e) {
        if (tapeLength + FED_AT_ONCE > MOST_TAPE) {
            return NONE;
        }
        putOnTape(a);
        putOnTape(b);
        putOnTape(c);
        putOnTape(d);
        putOnTape(e);
        return tapeLength;
    }

    public int court(int n) {
        if (!isWithin(n, 0, tapeLength)) {
            return refuse(WRONG);
        }
        boolean isTaken = courtReader.takeText(n);
        endText(isTaken);
        if (!isTaken) {
            return refuse(FAULTY);
        }
        now.copyFrom(spareCourt);
        agreed.clear();
        return give(now.claims);
    }

    public int terms(int n) {
        if (!isWithin(n, 0, tapeLength) || n > MOST_TERMS_TEXT) {
            return refuse(WRONG);
        }
        boolean isTaken = termsReader.takeText(n);
        endText(isTaken);
        if (!isTaken) {
            return refuse(FAULTY);
        }
        agreed.copyFrom(spareTerms);
        return give(agreed.steps);
    }

    public int fault(int what) {
        if (what == 0) {
            return faultKind;
        }
        return what == 1 ? faultPlace : NONE;
    }

    public int told(int what) {
        switch (what) {
            case 0: return give(now.beds);
            case 1: return give(now.cases);
            case 2: return give(now.claims);
            case 3: return give(now.scholars);
            case 4: return give(now.odds);
            case 5: return give(now.nightsPast);
            case 6: return give(now.made);
            case 7: return give(now.allCrocuses());
            case 8: return give(now.allShams());
            case 9: return give(now.allGold());
            case 10: return give(now.countParts());
            default: return refuse(WRONG);
        }
    }

    public int bed(int bed, int what) {
        if (!now.hasBed(bed)) {
            return refuse(WRONG);
        }
        switch (what) {
            case 0: return give(now.crocuses[bed]);
            case 1: return give(now.shams[bed]);
            default: return refuse(WRONG);
        }
    }

    public int weight(int which) {
        return now.hasCase(which) ? give(now.weights[which]) : refuse(WRONG);
    }

    public int claim(int claim, int what) {
        if (!now.hasClaim(claim)) {
            return refuse(WRONG);
        }
        switch (what) {
            case 0: return give(now.claimBeds[claim]);
            case 1: return give(now.costs[claim]);
            case 2: return give(now.truths[claim]);
            case 3: return give(now.yieldUnder(now.made, claim));
            default: return refuse(WRONG);
        }
    }

    public int scholar(int scholar, int what) {
        if (!now.hasScholar(scholar)) {
            return refuse(WRONG);
        }
        switch (what) {
            case 0: return give(now.scholarBeds[scholar]);
            case 1: return give(now.golds[scholar]);
            default: return refuse(WRONG);
        }
    }

    // ---- what is done

    public int make(int claim) {
        if (!now.hasClaim(claim)) {
            return refuse(WRONG);
        }
        return now.isMade(claim) ? refuse(CANNOT) : give(now.putForward(claim));
    }

    public int recant(int claim) {
        if (!now.hasClaim(claim)) {
            return refuse(WRONG);
        }
        if (!now.isMade(claim)) {
            return refuse(CANNOT);
        }
        now.made &= ~(1 << claim);
        return give(Integer.bitCount(now.made));
    }

    public int forget() {
        int were = Integer.bitCount(now.made);
        if (were == 0) {
            return refuse(CANNOT);
        }
        now.made = 0;
        return give(were);
    }

    public int walk(int scholar, int bed) {
        if (!now.hasScholar(scholar) || !now.hasBed(bed)) {
            return refuse(WRONG);
        }
        int steps = Math.abs(now.scholarBeds[scholar] - bed);
        if (steps == 0) {
            return refuse(CANNOT);
        }
        now.scholarBeds[scholar] = bed;
        return give(steps);
    }

    public int pick(int scholar) {
        if (!now.hasScholar(scholar)) {
            return refuse(WRONG);
        }
        int picked = now.harvest(scholar);
        return picked == 0 ? refuse(CANNOT) : give(picked);
    }

    public int night(int nights) {
        if (!isWithin(nights, 1, MOST_NIGHTS)) {
            return refuse(WRONG);
        }
        return now.passNights(nights) ? give(now.allCrocuses()) : refuse(TOO_MANY);
    }

    public int weed(int bed) {
        if (!now.hasBed(bed)) {
            return refuse(WRONG);
        }
        int thrown = now.shams[bed];
        if (thrown == 0) {
            return refuse(CANNOT);
        }
        now.shams[bed] = 0;
        return give(thrown);
    }

    public boolean teach(int claim, int which, boolean is) {
        if (!now.hasClaim(claim) || !now.hasCase(which)) {
            return deny(WRONG);
        }
        int bit = 1 << which;
        boolean was = (now.truths[claim] & bit) != 0;
        if (was == is) {
            return deny(CANNOT);
        }
        now.truths[claim] ^= bit;
        return grant();
    }

    public int weigh(int which, int weight) {
        if (!now.hasCase(which) || !isWithin(weight, 1, MOST_WEIGHT)) {
            return refuse(WRONG);
        }
        int was = now.weights[which];
        now.weights[which] = weight;
        return give(was);
    }

    public int think(int cases, int bed, int cost) {
        if (!now.hasCases(cases) || !now.hasBed(bed) || !isWithin(cost, 1, MOST_COST)) {
            return refuse(WRONG);
        }
        if (now.claims >= MOST_CLAIMS) {
            return refuse(TOO_MANY);
        }
        now.addClaim(Tokens.NAMELESS, bed, cost, cases);
        return give(now.claims - 1);
    }

    public boolean rule(int odds) {
        if (!isWithin(odds, 0, MOST_ODDS)) {
            return deny(WRONG);
        }
        now.odds = odds;
        return grant();
    }

    // ---- what is parted

    public int partOf(int which) {
        return now.hasCase(which) ? give(now.partUnder(now.made, which)) : refuse(WRONG);
    }

    public int couples() {
        int couples = 0;
        for (int which = 0; which < now.cases; which++) {
            couples += Integer.bitCount(now.partUnder(now.made, which)) - 1;
        }
        return give(couples / 2);
    }

    public int parting(int which, int other) {
        if (!now.hasCase(which) || !now.hasCase(other) || which == other) {
            return refuse(WRONG);
        }
        return give(now.partedBy(which, other));
    }

    public int barren() {
        int barren = 0;
        for (int claim = 0; claim < now.claims; claim++) {
            if (!now.isMade(claim) && now.yieldUnder(now.made, claim) == 0) {
                barren |= 1 << claim;
            }
        }
        return give(barren);
    }

    public int most(int n) {
        if (!isWithin(n, 0, MOST_ROW)) {
            return refuse(WRONG);
        }
        forecast.lookAlone(n);
        return give(forecast.bestBy(n));
    }

    public int first(int n, int k) {
        if (!isWithin(n, 0, MOST_ROW) || k < 0) {
            return refuse(WRONG);
        }
        forecast.lookAlone(n);
        return giveIfAny(forecast.rowAt(n, k));
    }

    public int fewest(int cases) {
        if (!now.hasCases(cases)) {
            return refuse(WRONG);
        }
        int set = fewestThatPart(cases);
        return set == NONE ? refuse(ABSENT) : give(Integer.bitCount(set));
    }

    public int fewestSet(int cases) {
        return now.hasCases(cases) ? giveIfAny(fewestThatPart(cases)) : refuse(WRONG);
    }

    // ---- trees

    public int deep(int cases) {
        if (!isSetOfSome(cases)) {
            return refuse(WRONG);
        }
        trees.grow(cases, false);
        return giveIfAny(trees.least[cases]);
    }

    public int askDeep(int cases) {
        if (!isSetOfSome(cases)) {
            return refuse(WRONG);
        }
        trees.grow(cases, false);
        return giveIfAny(trees.asked[cases]);
    }

    public int dear(int cases) {
        if (!isSetOfSome(cases)) {
            return refuse(WRONG);
        }
        trees.grow(cases, true);
        return giveIfAny(trees.least[cases]);
    }

    public int askDear(int cases) {
        if (!isSetOfSome(cases)) {
            return refuse(WRONG);
        }
        trees.grow(cases, true);
        return giveIfAny(trees.asked[cases]);
    }

    // ---- which case it is

    public int fits(int tray, int n) {
        int hindrance = hindranceToFit(tray, n);
        return hindrance == FINE ? give(fitting(trays[tray], n)) : refuse(hindrance);
    }

    public int likely(int tray, int n) {
        int hindrance = hindranceToFit(tray, n);
        if (hindrance != FINE) {
            return refuse(hindrance);
        }
        return giveIfAny(now.heaviestOf(fitting(trays[tray], n)));
    }

    public boolean oddsThat(int tray, int n, int which) {
        if (!now.hasCase(which)) {
            return deny(WRONG);
        }
        int hindrance = hindranceToFit(tray, n);
        if (hindrance != FINE) {
            return deny(hindrance);
        }
        int fitting = fitting(trays[tray], n);
        if (fitting == 0) {
            return deny(ABSENT);
        }
        fraction.tell(now.weightOf(fitting & 1 << which), now.weightOf(fitting));
        return grant();
    }

    public int next(int tray, int n) {
        int hindrance = hindranceToFit(tray, n);
        if (hindrance != FINE) {
            return refuse(hindrance);
        }
        return giveIfAny(bestParting(fitting(trays[tray], n)));
    }

    // ---- picking, games, odds

    public int gather(int scholar, int n) {
        if (!now.hasScholar(scholar) || !isWithin(n, 0, MOST_WALK)) {
            return refuse(WRONG);
        }
        return give(now.reapedWithin(now.scholarBeds[scholar], n));
    }

    public int brisk(int scholar, int n) {
        if (!now.hasScholar(scholar) || !isWithin(n, 0, MOST_WALK)) {
            return refuse(WRONG);
        }
        int start = now.scholarBeds[scholar];
        int most = now.reapedWithin(start, n);
        int steps = 0;
        while (steps < n && now.reapedWithin(start, steps) < most) {
            steps++;
        }
        return give(steps);
    }

    public int game(int n) {
        if (!isWithin(n, 0, MOST_TURNS)) {
            return refuse(WRONG);
        }
        forecast.lookByTurns(n);
        return give(forecast.bestBy(n));
    }

    public int moveOf(int n) {
        if (!isWithin(n, 1, MOST_TURNS)) {
            return refuse(WRONG);
        }
        forecast.lookByTurns(n);
        return giveIfAny(forecast.openingOf(n));
    }

    public boolean blind(int bed, int n, int k) {
        if (!now.hasBed(bed) || !isWithin(n, 0, MOST_TAKEN) || !isWithin(k, 0, MOST_TAKEN)) {
            return deny(WRONG);
        }
        int crocuses = now.crocuses[bed];
        int shams = now.shams[bed];
        if (crocuses + shams < n) {
            return deny(ABSENT);
        }
        long ways = 0;
        for (int taken = k; taken <= n; taken++) {
            ways += waysToTake(crocuses, taken) * waysToTake(shams, n - taken);
        }
        fraction.tell(ways, waysToTake(crocuses + shams, n));
        return grant();
    }

    public boolean share(int scholar) {
        if (!now.hasScholar(scholar)) {
            return deny(WRONG);
        }
        int all = now.allGold();
        if (all == 0) {
            return deny(ABSENT);
        }
        fraction.tell(now.golds[scholar], all);
        return grant();
    }

    public int copyBeds(int tray) {
        if (!isTray(tray)) {
            return refuse(WRONG);
        }
        if (!trays[tray].isThere) {
            return refuse(MISSING);
        }
        if (!trays[tray].spans(0, now.beds)) {
            return refuse(SHORT);
        }
        for (int bed = 0; bed < now.beds; bed++) {
            trays[tray].put(bed, now.crocuses[bed]);
        }
        return give(now.beds);
    }

    // ---- TERMS

    public int live(int seed) {
        if (!isWithin(seed, 0, MOST_SEED)) {
            return refuse(WRONG);
        }
        if (!agreed.areThere) {
            return refuse(ABSENT);
        }
        life.pass(now, seed);
        life.keepNumbers();
        return give(life.done);
    }

    public int lived(int what) {
        if (!isWithin(what, 0, LIVED_NUMBERS - 1)) {
            return refuse(WRONG);
        }
        return life.areKept ? give(life.kept[what]) : refuse(ABSENT);
    }

    public boolean mean(int seed, int many) {
        if (!isWithin(seed, 0, MOST_SEED) || !isWithin(many, 1, MOST_SEEDS) || seed + many - 1 > MOST_SEED) {
            return deny(WRONG);
        }
        if (!agreed.areThere) {
            return deny(ABSENT);
        }
        long gold = 0;
        for (int i = 0; i < many; i++) {
            spareCourt.copyFrom(now);
            life.pass(spareCourt, seed + i);
            gold += spareCourt.allGold();
        }
        fraction.tell(gold, many);
        return grant();
    }

    // ---- MARKS

    public int mark() {
        if (marks >= MOST_MARKS) {
            return refuse(TOO_MANY);
        }
        markedCourts[marks].copyFrom(now);
        markedTerms[marks].copyFrom(agreed);
        marks++;
        return give(marks);
    }

    public int undo() {
        if (marks == 0) {
            return refuse(ABSENT);
        }
        marks--;
        now.copyFrom(markedCourts[marks]);
        agreed.copyFrom(markedTerms[marks]);
        return give(marks);
    }

    private int give(int answer) {
        status = FINE;
        return answer;
    }

    private int giveIfAny(int answer) {
        return answer == NONE ? refuse(ABSENT) : give(answer);
    }

    private int refuse(int why) {
        status = why;
        return NONE;
    }

    private boolean grant() {
        status = FINE;
        return true;
    }

    private boolean deny(int why) {
        status = why;
        return false;
    }

    private static boolean isWithin(int number, int least, int greatest) {
        return number >= least && number <= greatest;
    }

    private static boolean isTray(int tray) {
        return isWithin(tray, 0, MOST_TRAYS - 1);
    }

    private boolean isSetOfSome(int cases) {
        return cases != 0 && now.hasCases(cases);
    }

    private int hindranceAt(int tray, int place) {
        if (!isTray(tray)) {
            return WRONG;
        }
        if (!trays[tray].isThere) {
            return MISSING;
        }
        return isWithin(place, 0, trays[tray].many - 1) ? FINE : SHORT;
    }

    private void putOnTape(int four) {
        for (int shift = 24; shift >= 0; shift -= 8) {
            tape[tapeLength] = (byte) (four >>> shift);
            tapeLength++;
        }
    }

    private void endText(boolean isTaken) {
        tapeLength = 0;
        faultKind = isTaken ? 0 : tokens.faultKind;
        faultPlace = isTaken ? NONE : tokens.faultPlace;
    }

    private int hindranceToFit(int tray, int n) {
        if (!isTray(tray) || !isWithin(n, 0, MOST_TWOS)) {
            return WRONG;
        }
        Tray told = trays[tray];
        if (!told.isThere) {
            return MISSING;
        }
        if (!told.spans(0, 2 * n)) {
            return SHORT;
        }
        for (int i = 0; i < n; i++) {
            long claim = told.numbers[2 * i];
            long truth = told.numbers[2 * i + 1];
            if (claim < 0 || claim >= now.claims || truth < 0 || truth > 1) {
                return ODD_NUMBER;
            }
        }
        return FINE;
    }

    private int fitting(Tray told, int n) {
        int set = now.setOfAll();
        for (int i = 0; i < n; i++) {
            int truths = now.truths[(int) told.numbers[2 * i]];
            set &= told.numbers[2 * i + 1] == 1 ? truths : ~truths;
        }
        return set;
    }

    private int bestParting(int set) {
        int all = Integer.bitCount(set);
        int best = NONE;
        // A claim that leaves them all on one side does not part them.
        int least = all;
        for (int claim = 0; claim < now.claims; claim++) {
            int yes = Integer.bitCount(set & now.truths[claim]);
            int greater = Math.max(yes, all - yes);
            if (greater < least) {
                least = greater;
                best = claim;
            }
        }
        return best;
    }

    private int fewestThatPart(int cases) {
        int best = NONE;
        int least = MOST_CLAIMS + 1;
        for (int set = 0; set < 1 << now.claims; set++) {
            int many = Integer.bitCount(set);
            if (many < least && now.isPartedWhole(cases, set)) {
                least = many;
                best = set;
            }
        }
        return best;
    }

    private static long waysToTake(int from, int many) {
        long ways = 1;
        for (int i = 0; i < many; i++) {
            ways = ways * (from - i) / (i + 1);
        }
        return ways;
    }

    /** A TRAY: a row of numbers of one sort, or MISSING. */
    private static final class Tray {
        final long[] numbers = new long[MOST_NUMBERS];
        boolean isThere;
        int sort;
        int many;

        void lay(int newSort, int newMany) {
            isThere = true;
            sort = newSort;
            many = newMany;
            Arrays.fill(numbers, 0L);
        }

        boolean spans(int place, int length) {
            return place >= 0 && length >= 0 && place <= many - length;
        }

        void put(int place, long number) {
            switch (sort) {
                case 0: numbers[place] = (byte) number; break;
                case 1: numbers[place] = (short) number; break;
                case 2: numbers[place] = (int) number; break;
                default: numbers[place] = number; break;
            }
        }
    }

    /** The FRACTION that was told latest. */
    private static final class Fraction {
        // Each round of the division halves the numbers at least every second time.
        private static final int MOST_ROUNDS = 200;
        long over;
        long under = 1;

        void tell(long whole, long parts) {
            long divisor = commonDivisor(whole, parts);
            if (divisor > 0) {
                over = whole / divisor;
                under = parts / divisor;
            }
        }

        private static long commonDivisor(long one, long other) {
            long a = one;
            long b = other;
            for (int i = 0; i < MOST_ROUNDS && b != 0; i++) {
                long rest = a % b;
                a = b;
                b = rest;
            }
            return a;
        }
    }

    /** A COURT with all that became of it. */
    private static final class Court {
        final int[] crocuses = new int[MOST_BEDS];
        final int[] shams = new int[MOST_BEDS];
        final int[] weights = new int[MOST_CASES];
        final int[] claimBeds = new int[MOST_CLAIMS];
        final int[] costs = new int[MOST_CLAIMS];
        final int[] truths = new int[MOST_CLAIMS];
        final long[] claimNames = new long[MOST_CLAIMS];
        final int[] scholarBeds = new int[MOST_SCHOLARS];
        final int[] golds = new int[MOST_SCHOLARS];
        final long[] scholarNames = new long[MOST_SCHOLARS];
        int beds;
        int cases;
        int claims;
        int scholars;
        int odds = USUAL_ODDS;
        int nightsPast;
        int made;

        void clear() {
            beds = 0;
            cases = 0;
            claims = 0;
            scholars = 0;
            odds = USUAL_ODDS;
            nightsPast = 0;
            made = 0;
        }

        void copyFrom(Court other) {
            System.arraycopy(other.crocuses, 0, crocuses, 0, MOST_BEDS);
            System.arraycopy(other.shams, 0, shams, 0, MOST_BEDS);
            System.arraycopy(other.weights, 0, weights, 0, MOST_CASES);
            System.arraycopy(other.claimBeds, 0, claimBeds, 0, MOST_CLAIMS);
            System.arraycopy(other.costs, 0, costs, 0, MOST_CLAIMS);
            System.arraycopy(other.truths, 0, truths, 0, MOST_CLAIMS);
            System.arraycopy(other.claimNames, 0, claimNames, 0, MOST_CLAIMS);
            System.arraycopy(other.scholarBeds, 0, scholarBeds, 0, MOST_SCHOLARS);
            System.arraycopy(other.golds, 0, golds, 0, MOST_SCHOLARS);
            System.arraycopy(other.scholarNames, 0, scholarNames, 0, MOST_SCHOLARS);
            beds = other.beds;
            cases = other.cases;
            claims = other.claims;
            scholars = other.scholars;
            odds = other.odds;
            nightsPast = other.nightsPast;
            made = other.made;
        }

        boolean hasBed(int bed) {
            return bed >= 0 && bed < beds;
        }

        boolean hasCase(int which) {
            return which >= 0 && which < cases;
        }

        boolean hasCases(int set) {
            return (set & ~setOfAll()) == 0;
        }

        boolean hasClaim(int claim) {
            return claim >= 0 && claim < claims;
        }

        boolean hasScholar(int scholar) {
            return scholar >= 0 && scholar < scholars;
        }

        int setOfAll() {
            return (1 << cases) - 1;
        }

        boolean isMade(int claim) {
            return (made & 1 << claim) != 0;
        }

        int allCrocuses() {
            return sumOf(crocuses, beds);
        }

        int allShams() {
            return sumOf(shams, beds);
        }

        int allGold() {
            return sumOf(golds, scholars);
        }

        private static int sumOf(int[] row, int many) {
            int sum = 0;
            for (int i = 0; i < many; i++) {
                sum += row[i];
            }
            return sum;
        }

        int weightOf(int set) {
            int sum = 0;
            for (int which = 0; which < cases; which++) {
                if ((set & 1 << which) != 0) {
                    sum += weights[which];
                }
            }
            return sum;
        }

        int heaviestOf(int set) {
            int best = NONE;
            int heaviest = 0;
            for (int which = 0; which < cases; which++) {
                if ((set & 1 << which) != 0 && weights[which] > heaviest) {
                    heaviest = weights[which];
                    best = which;
                }
            }
            return best;
        }

        void addBed(int crocusesThere, int shamsThere) {
            crocuses[beds] = crocusesThere;
            shams[beds] = shamsThere;
            beds++;
        }

        void addCase(int weight) {
            weights[cases] = weight;
            cases++;
        }

        void addClaim(long name, int bed, int cost, int truth) {
            claimNames[claims] = name;
            claimBeds[claims] = bed;
            costs[claims] = cost;
            truths[claims] = truth;
            claims++;
        }

        void addScholar(long name, int bed, int gold) {
            scholarNames[scholars] = name;
            scholarBeds[scholars] = bed;
            golds[scholars] = gold;
            scholars++;
        }

        /** The set of CASES in one PART with a CASE, if a set of CLAIMS were MADE. */
        int partUnder(int claimsMade, int which) {
            int part = (1 << cases) - 1;
            for (int claim = 0; claim < claims; claim++) {
                if ((claimsMade & 1 << claim) != 0) {
                    boolean isTrue = (truths[claim] & 1 << which) != 0;
                    part &= isTrue ? truths[claim] : ~truths[claim];
                }
            }
            return part;
        }

        int countParts() {
            int parts = 0;
            int seen = 0;
            for (int which = 0; which < cases; which++) {
                if ((seen & 1 << which) == 0) {
                    seen |= partUnder(made, which);
                    parts++;
                }
            }
            return parts;
        }

        /** The YIELD of a CLAIM, if a set of CLAIMS were MADE. */
        int yieldUnder(int claimsMade, int claim) {
            if ((claimsMade & 1 << claim) != 0) {
                return 0;
            }
            int smaller = 0;
            int seen = 0;
            for (int which = 0; which < cases; which++) {
                if ((seen & 1 << which) == 0) {
                    int part = partUnder(claimsMade, which);
                    int yes = Integer.bitCount(part & truths[claim]);
                    smaller += Math.min(yes, Integer.bitCount(part) - yes);
                    seen |= part;
                }
            }
            return 3 * smaller;
        }

        int partedBy(int which, int other) {
            int set = 0;
            for (int claim = 0; claim < claims; claim++) {
                if ((truths[claim] >> which & 1) != (truths[claim] >> other & 1)) {
                    set |= 1 << claim;
                }
            }
            return set;
        }

        boolean isPartedWhole(int set, int claimsAsked) {
            for (int which = 0; which < cases; which++) {
                int alike = partUnder(claimsAsked, which) & set;
                if ((set & 1 << which) != 0 && alike != 1 << which) {
                    return false;
                }
            }
            return true;
        }

        int putForward(int claim) {
            int yielded = yieldUnder(made, claim);
            int bed = claimBeds[claim];
            made |= 1 << claim;
            crocuses[bed] = Math.min(MOST_CROCUSES, crocuses[bed] + yielded);
            return yielded;
        }

        int harvest(int scholar) {
            int bed = scholarBeds[scholar];
            int picked = crocuses[bed];
            crocuses[bed] = 0;
            golds[scholar] = Math.min(MOST_GOLD, golds[scholar] + picked);
            return picked;
        }

        boolean passNights(int many) {
            if (nightsPast + many > MOST_NIGHT) {
                return false;
            }
            nightsPast += many;
            for (int bed = 0; bed < beds; bed++) {
                int withered = Math.min(many, crocuses[bed]);
                crocuses[bed] -= withered;
                shams[bed] = Math.min(MOST_SHAMS, shams[bed] + withered);
            }
            return true;
        }

        /** The most CROCUSES in a row of BEDS around one that can be walked by so many steps. */
        int reapedWithin(int start, int steps) {
            int most = 0;
            for (int low = 0; low <= start; low++) {
                for (int high = start; high < beds; high++) {
                    int down = start - low;
                    int up = high - start;
                    // The nearer end is walked to and back, then the farther one.
                    if (down + up + Math.min(down, up) <= steps) {
                        most = Math.max(most, sumOf(crocuses, high + 1) - sumOf(crocuses, low));
                    }
                }
            }
            return most;
        }
    }

    /** TERMS as entries in a row: each STEP one, each end one. */
    private static final class Terms {
        static final int MOST_ENTRIES = 2 * MOST_STEPS;
        // A when stands here as its TEST's word: made, crocus or gold.
        final int[] kinds = new int[MOST_ENTRIES];
        final int[] things = new int[MOST_ENTRIES];
        final int[] signs = new int[MOST_ENTRIES];
        final int[] numbers = new int[MOST_ENTRIES];
        // Of a when or loop where its end is, of an end where it began.
        final int[] partners = new int[MOST_ENTRIES];
        boolean areThere;
        int entries;
        int steps;

        void clear() {
            areThere = false;
            entries = 0;
            steps = 0;
        }

        void copyFrom(Terms other) {
            System.arraycopy(other.kinds, 0, kinds, 0, MOST_ENTRIES);
            System.arraycopy(other.things, 0, things, 0, MOST_ENTRIES);
            System.arraycopy(other.signs, 0, signs, 0, MOST_ENTRIES);
            System.arraycopy(other.numbers, 0, numbers, 0, MOST_ENTRIES);
            System.arraycopy(other.partners, 0, partners, 0, MOST_ENTRIES);
            areThere = other.areThere;
            entries = other.entries;
            steps = other.steps;
        }
    }

    /** A text on the tape, TOKEN by TOKEN, and the FAULT at which it was left. */
    private static final class Tokens {
        static final long NAMELESS = 0;
        // A NAME is kept as a number with a letter a digit, so that 8 letters fit a long.
        private static final long LETTERS = 27;
        private static final int MOST_LETTERS = 8;
        private static final int MOST_DIGITS = 4;
        private static final int TEXT_END = 0;
        private static final int UNKNOWN = 1;
        private static final int KEYWORD = 2;
        private static final int NAME = 3;
        private static final int LONG_WORD = 4;
        private static final int NUMBER = 5;
        private static final int SIGN = 6;

        private final byte[] text;
        private final long[] keywords = new long[KEYWORDS];
        private int length;
        private int from;
        private int to;
        private int kind;
        private int keyword;
        private int value;
        long name;
        int number;
        int sign;
        int faultKind;
        int faultPlace;

        Tokens(byte[] tape) {
            text = tape;
            int which = 0;
            long code = 0;
            for (int i = 0; i < KEYWORD_TEXT.length(); i++) {
                char letter = KEYWORD_TEXT.charAt(i);
                if (letter != ' ') {
                    code = code * LETTERS + (letter - 'a' + 1);
                } else if (which < KEYWORDS) {
                    keywords[which] = code;
                    code = 0;
                    which++;
                }
            }
        }

        void open(int textLength) {
            length = Math.min(textLength, text.length);
            to = 0;
            faultKind = 0;
            faultPlace = NONE;
            move();
        }

        void move() {
            from = to;
            while (from < length && (text[from] == 10 || text[from] == 32)) {
                from++;
            }
            to = from;
            int first = from < length ? text[from] : 0;
            if (from >= length) {
                kind = TEXT_END;
            } else if (first >= 'a' && first <= 'z') {
                scanWord();
            } else if (first >= '0' && first <= '9') {
                scanNumber();
            } else {
                scanSign(first);
            }
        }

        private void scanWord() {
            name = 0;
            while (to < length && text[to] >= 'a' && text[to] <= 'z') {
                name = name * LETTERS + (text[to] - 'a' + 1);
                to++;
            }
            if (to - from > MOST_LETTERS) {
                kind = LONG_WORD;
                return;
            }
            kind = NAME;
            for (int i = 0; i < KEYWORDS; i++) {
                if (keywords[i] == name) {
                    kind = KEYWORD;
                    keyword = i;
                }
            }
        }

        private void scanNumber() {
            value = 0;
            while (to < length && text[to] >= '0' && text[to] <= '9') {
                value = value * 10 + text[to] - '0';
                to++;
            }
            kind = to - from > MOST_DIGITS ? UNKNOWN : NUMBER;
        }

        private void scanSign(int first) {
            value = first;
            boolean isSign = first == ';' || first == '<' || first == '>' || first == '=';
            kind = isSign ? SIGN : UNKNOWN;
            to = from + 1;
        }

        boolean isOver() {
            return kind == TEXT_END;
        }

        boolean isName() {
            return kind == NAME;
        }

        boolean isAt(int word) {
            return kind == KEYWORD && keyword == word;
        }

        int keywordHere() {
            return kind == KEYWORD ? keyword : NONE;
        }

        /** Always false, so that a reader can leave with it. */
        boolean fail(int why) {
            faultKind = kind == UNKNOWN ? 1 : why;
            faultPlace = from;
            return false;
        }

        boolean takeKeyword(int word) {
            if (!isAt(word)) {
                return fail(2);
            }
            move();
            return true;
        }

        boolean takeSemicolon() {
            if (kind != SIGN || value != ';') {
                return fail(2);
            }
            move();
            return true;
        }

        boolean takeComparing() {
            if (kind != SIGN || value == ';') {
                return fail(2);
            }
            sign = value;
            move();
            return true;
        }

        boolean takeNumber(int least, int greatest) {
            if (kind != NUMBER) {
                return fail(2);
            }
            if (value < least || value > greatest) {
                return fail(4);
            }
            number = value;
            move();
            return true;
        }

        boolean takeNumberBehind(int word, int least, int greatest, int without) {
            if (isAt(word)) {
                move();
                return takeNumber(least, greatest);
            }
            number = without;
            return true;
        }
    }

    private static int indexOfName(long[] names, int many, long name) {
        for (int i = 0; i < many; i++) {
            if (names[i] == name) {
                return i;
            }
        }
        return NONE;
    }

    /** Reads the text of a COURT. */
    private static final class CourtReader {
        private final Tokens tokens;
        private final Court court;
        private final long[] caseNames = new long[MOST_CASES];
        private boolean areOddsTold;
        private long newName;

        CourtReader(Tokens tokens, Court court) {
            this.tokens = tokens;
            this.court = court;
        }

        boolean takeText(int length) {
            court.clear();
            areOddsTold = false;
            tokens.open(length);
            // Each part takes a byte or more, so the text is over by then.
            for (int i = 0; i <= length; i++) {
                if (tokens.isOver()) {
                    return true;
                }
                boolean isTaken;
                switch (tokens.keywordHere()) {
                    case ODDS: isTaken = takeOdds(); break;
                    case BED: isTaken = takeBed(); break;
                    case CASE: isTaken = takeCase(); break;
                    case CLAIM: isTaken = takeClaim(); break;
                    case SCHOLAR: isTaken = takeScholar(); break;
                    default: isTaken = tokens.fail(2); break;
                }
                if (!isTaken) {
                    return false;
                }
            }
            return tokens.fail(2);
        }

        private boolean takeOdds() {
            if (areOddsTold) {
                return tokens.fail(5);
            }
            areOddsTold = true;
            tokens.move();
            if (!tokens.takeNumber(0, MOST_ODDS)) {
                return false;
            }
            court.odds = tokens.number;
            return tokens.takeSemicolon();
        }

        private boolean takeBed() {
            if (court.beds >= MOST_BEDS) {
                return tokens.fail(6);
            }
            tokens.move();
            if (!tokens.takeNumberBehind(CROCUS, 0, 99, 0)) {
                return false;
            }
            int crocuses = tokens.number;
            if (!tokens.takeNumberBehind(SHAM, 0, MOST_SHAMS, 0)) {
                return false;
            }
            court.addBed(crocuses, tokens.number);
            return tokens.takeSemicolon();
        }

        private boolean takeCase() {
            if (court.cases >= MOST_CASES) {
                return tokens.fail(6);
            }
            tokens.move();
            if (!takeNewName() || !tokens.takeKeyword(WEIGHT) || !tokens.takeNumber(1, MOST_WEIGHT)) {
                return false;
            }
            caseNames[court.cases] = newName;
            court.addCase(tokens.number);
            return tokens.takeSemicolon();
        }

        private boolean takeClaim() {
            if (court.claims >= MOST_CLAIMS) {
                return tokens.fail(6);
            }
            tokens.move();
            if (!takeNewName() || !tokens.takeKeyword(AT) || !tokens.takeNumber(0, court.beds - 1)) {
                return false;
            }
            int bed = tokens.number;
            if (!tokens.takeNumberBehind(COST, 1, MOST_COST, 1)) {
                return false;
            }
            court.addClaim(newName, bed, tokens.number, 0);
            return tokens.takeKeyword(OF) && takeTruths(court.claims - 1);
        }

        private boolean takeTruths(int claim) {
            // Each CASE is told once, so one NAME more than there can be CASES is a FAULT.
            for (int i = 0; i <= MOST_CASES; i++) {
                if (!tokens.isName()) {
                    return tokens.takeSemicolon();
                }
                int which = indexOfName(caseNames, court.cases, tokens.name);
                if (which == NONE) {
                    return tokens.fail(3);
                }
                if ((court.truths[claim] & 1 << which) != 0) {
                    return tokens.fail(5);
                }
                court.truths[claim] |= 1 << which;
                tokens.move();
            }
            return tokens.fail(2);
        }

        private boolean takeScholar() {
            if (court.scholars >= MOST_SCHOLARS) {
                return tokens.fail(6);
            }
            tokens.move();
            if (!takeNewName() || !tokens.takeKeyword(AT) || !tokens.takeNumber(0, court.beds - 1)) {
                return false;
            }
            int bed = tokens.number;
            if (!tokens.takeNumberBehind(GOLD, 0, 999, 0)) {
                return false;
            }
            court.addScholar(newName, bed, tokens.number);
            return tokens.takeSemicolon();
        }

        private boolean takeNewName() {
            if (!tokens.isName()) {
                return tokens.fail(2);
            }
            newName = tokens.name;
            if (indexOfName(caseNames, court.cases, newName) != NONE
                || indexOfName(court.claimNames, court.claims, newName) != NONE
                || indexOfName(court.scholarNames, court.scholars, newName) != NONE) {
                return tokens.fail(3);
            }
            tokens.move();
            return true;
        }
    }

    /** Reads the text of TERMS, by the NAMES of a COURT. */
    private static final class TermsReader {
        private final Tokens tokens;
        private final Terms terms;
        private final Court court;
        private final int[] open = new int[MOST_NESTED];
        private int depth;

        TermsReader(Tokens tokens, Terms terms, Court court) {
            this.tokens = tokens;
            this.terms = terms;
            this.court = court;
        }

        boolean takeText(int length) {
            terms.clear();
            terms.areThere = true;
            depth = 0;
            tokens.open(length);
            // Each STEP takes a byte or more, so the text is over by then.
            for (int i = 0; i <= length && !tokens.isOver(); i++) {
                boolean isTaken = tokens.isAt(END) ? takeEnd() : takeStep();
                if (!isTaken) {
                    return false;
                }
            }
            return depth == 0 ? true : tokens.fail(2);
        }

        private boolean takeStep() {
            int word = tokens.keywordHere();
            if (!canBegin(word)) {
                return false;
            }
            int entry = begin(word);
            boolean isTaken = true;
            switch (word) {
                case MAKE: isTaken = takeName(entry, court.claimNames, court.claims); break;
                case WALK: isTaken = takeName(entry, court.scholarNames, court.scholars)
                    && takeNumber(entry, 0, court.beds - 1); break;
                case PICK: isTaken = takeName(entry, court.scholarNames, court.scholars); break;
                case NIGHT: isTaken = takeNumber(entry, 1, 40); break;
                case LOOP: isTaken = takeNumber(entry, 1, 99); break;
                case WHEN: isTaken = takeTest(entry); break;
                default: break;
            }
            return isTaken && tokens.takeSemicolon();
        }

        private boolean canBegin(int word) {
            if (word < MAKE || word > STOP || word == MADE) {
                return tokens.fail(2);
            }
            if (terms.steps >= MOST_STEPS) {
                return tokens.fail(6);
            }
            if ((word == WHEN || word == LOOP) && depth >= MOST_NESTED) {
                return tokens.fail(7);
            }
            return true;
        }

        private int begin(int word) {
            int entry = addEntry(word);
            terms.steps++;
            if (word == WHEN || word == LOOP) {
                open[depth] = entry;
                depth++;
            }
            tokens.move();
            return entry;
        }

        private boolean takeTest(int entry) {
            int word = tokens.keywordHere();
            if (word != MADE && word != CROCUS && word != GOLD) {
                return tokens.fail(2);
            }
            terms.kinds[entry] = word;
            tokens.move();
            if (word == MADE) {
                return takeName(entry, court.claimNames, court.claims);
            }
            boolean isTaken = word == CROCUS
                ? takeBedNumber(entry)
                : takeName(entry, court.scholarNames, court.scholars);
            if (!isTaken || !tokens.takeComparing()) {
                return false;
            }
            terms.signs[entry] = tokens.sign;
            return takeNumber(entry, 0, 9999);
        }

        private boolean takeEnd() {
            if (depth == 0) {
                return tokens.fail(2);
            }
            depth--;
            int beginning = open[depth];
            int entry = addEntry(END);
            terms.partners[beginning] = entry;
            terms.partners[entry] = beginning;
            tokens.move();
            return tokens.takeSemicolon();
        }

        // There is room always: at most 30 STEPS, and at most one end for each.
        private int addEntry(int kind) {
            int entry = terms.entries;
            terms.kinds[entry] = kind;
            terms.entries++;
            return entry;
        }

        private boolean takeName(int entry, long[] names, int many) {
            if (!tokens.isName()) {
                return tokens.fail(2);
            }
            int which = indexOfName(names, many, tokens.name);
            if (which == NONE) {
                return tokens.fail(3);
            }
            terms.things[entry] = which;
            tokens.move();
            return true;
        }

        private boolean takeBedNumber(int entry) {
            boolean isTaken = tokens.takeNumber(0, court.beds - 1);
            terms.things[entry] = isTaken ? tokens.number : 0;
            return isTaken;
        }

        private boolean takeNumber(int entry, int least, int greatest) {
            boolean isTaken = tokens.takeNumber(least, greatest);
            terms.numbers[entry] = isTaken ? tokens.number : 0;
            return isTaken;
        }
    }

    /** Lives by TERMS. */
    private static final class Life {
        // A loop comes to its end at most 99 times for each of the 300 STEPS.
        private static final int MOST_MOVES = 100000;
        final int[] kept = new int[LIVED_NUMBERS];
        boolean areKept;
        int done;
        private final Terms terms;
        private final int[] roundsLeft = new int[Terms.MOST_ENTRIES];
        private Court court;
        private int drawn;
        private int missed;
        private int yielded;
        private int picked;
        private int nights;
        private boolean isLeft;

        Life(Terms terms, Court court) {
            this.terms = terms;
            this.court = court;
        }

        void pass(Court lived, int seed) {
            court = lived;
            drawn = seed;
            done = 0;
            missed = 0;
            yielded = 0;
            picked = 0;
            nights = 0;
            isLeft = false;
            int entry = 0;
            for (int i = 0; i < MOST_MOVES && entry < terms.entries; i++) {
                if (terms.kinds[entry] == END) {
                    entry = behindEnd(entry);
                } else if (done < MOST_DONE) {
                    done++;
                    act(entry);
                    entry = behindStep(entry);
                } else {
                    isLeft = true;
                    return;
                }
            }
        }

        void keepNumbers() {
            kept[0] = missed;
            kept[1] = yielded;
            kept[2] = picked;
            kept[3] = nights;
            kept[4] = isLeft ? 1 : 0;
            areKept = true;
        }

        private int behindEnd(int entry) {
            int beginning = terms.partners[entry];
            if (terms.kinds[beginning] != LOOP) {
                return entry + 1;
            }
            roundsLeft[beginning]--;
            return roundsLeft[beginning] > 0 ? beginning + 1 : entry + 1;
        }

        private int behindStep(int entry) {
            switch (terms.kinds[entry]) {
                case MADE:
                case CROCUS:
                case GOLD:
                    return holds(entry) ? entry + 1 : terms.partners[entry] + 1;
                case LOOP:
                    roundsLeft[entry] = terms.numbers[entry];
                    return entry + 1;
                case STOP:
                    return terms.entries;
                default:
                    return entry + 1;
            }
        }

        private boolean holds(int entry) {
            int thing = terms.things[entry];
            switch (terms.kinds[entry]) {
                case MADE: return court.isMade(thing);
                case CROCUS: return compares(court.crocuses[thing], entry);
                default: return compares(court.golds[thing], entry);
            }
        }

        private boolean compares(int many, int entry) {
            switch (terms.signs[entry]) {
                case '<': return many < terms.numbers[entry];
                case '>': return many > terms.numbers[entry];
                default: return many == terms.numbers[entry];
            }
        }

        private void act(int entry) {
            int thing = terms.things[entry];
            int number = terms.numbers[entry];
            switch (terms.kinds[entry]) {
                case MAKE: tryClaim(thing); break;
                case WALK: tryBed(thing, number); break;
                case PICK: tryHarvest(thing); break;
                case NIGHT: tryNights(number); break;
                case FORGET: tryForgetting(); break;
                case ANY: tryAny(); break;
                default: break;
            }
        }

        private void tryClaim(int claim) {
            if (court.isMade(claim)) {
                missed++;
            } else {
                yielded += court.putForward(claim);
            }
        }

        private void tryBed(int scholar, int bed) {
            if (court.scholarBeds[scholar] == bed) {
                missed++;
            } else {
                court.scholarBeds[scholar] = bed;
            }
        }

        private void tryHarvest(int scholar) {
            int many = court.harvest(scholar);
            picked += many;
            if (many == 0) {
                missed++;
            }
        }

        private void tryNights(int many) {
            if (court.passNights(many)) {
                nights += many;
            } else {
                missed++;
            }
        }

        private void tryForgetting() {
            if (court.made == 0) {
                missed++;
            }
            court.made = 0;
        }

        private void tryAny() {
            if (court.claims == 0 || court.scholars == 0) {
                missed++;
                return;
            }
            int claim = draw(court.claims);
            int scholar = draw(court.scholars);
            if (draw(16) < court.odds) {
                tryClaim(claim);
            } else {
                tryHarvest(scholar);
            }
        }

        private int draw(int many) {
            drawn = (drawn * 3229 + 11453) % 65536;
            return many > 0 ? drawn / 8 % many : 0;
        }
    }

    /** TREES of sets of CASES. */
    private static final class Trees {
        // NONE where there is no TREE; asked is NONE of one CASE, too.
        final int[] least = new int[SETS_OF_CASES];
        final int[] asked = new int[SETS_OF_CASES];
        private final Court court;

        Trees(Court court) {
            this.court = court;
        }

        void grow(int cases, boolean isByCost) {
            // What a set is parted into are lesser numbers, which stand by then.
            for (int set = 1; set <= cases; set++) {
                if ((set & ~cases) == 0) {
                    growOne(set, isByCost);
                }
            }
        }

        private void growOne(int set, boolean isByCost) {
            least[set] = Integer.bitCount(set) == 1 ? 0 : NONE;
            asked[set] = NONE;
            int weight = court.weightOf(set);
            for (int claim = 0; claim < court.claims; claim++) {
                int yes = set & court.truths[claim];
                int no = set & ~court.truths[claim];
                if (yes == 0 || no == 0 || least[yes] == NONE || least[no] == NONE) {
                    continue;
                }
                int worth = isByCost
                    ? court.costs[claim] * weight + least[yes] + least[no]
                    : 1 + Math.max(least[yes], least[no]);
                if (least[set] == NONE || worth < least[set]) {
                    least[set] = worth;
                    asked[set] = claim;
                }
            }
        }
    }

    /** What is best to be MADE, alone or by turns, found from the last CLAIM to the first. */
    private static final class Forecast {
        private final Court court;
        private final int[] yields = new int[SETS_OF_CLAIMS * MOST_CLAIMS];
        // By how many may still come and by the set that is MADE.
        private final int[] best = new int[(MOST_TURNS + 1) * SETS_OF_CLAIMS];

        Forecast(Court court) {
            this.court = court;
        }

        void lookAlone(int n) {
            prepare(n);
            for (int left = 1; left <= n; left++) {
                for (int made = court.made; made < 1 << court.claims; made++) {
                    if (isWithin(claimsMore(made), 0, n - left)) {
                        best[indexOf(left, made)] = bestFrom(left, made, 0, 1);
                    }
                }
            }
        }

        void lookByTurns(int n) {
            prepare(n);
            for (int left = 1; left <= n; left++) {
                for (int made = court.made; made < 1 << court.claims; made++) {
                    if (isWithin(claimsMore(made), 0, n - left)) {
                        int none = -best[indexOf(left - 1, made)];
                        best[indexOf(left, made)] = bestFrom(left, made, none, -1);
                    }
                }
            }
        }

        int bestBy(int n) {
            return best[indexOf(n, court.made)];
        }

        int rowAt(int n, int k) {
            int made = court.made;
            for (int i = 0; i < n; i++) {
                int worth = best[indexOf(n - i, made)];
                // A row that ends comes ahead of one that goes on for nothing.
                int claim = worth == 0 ? NONE : firstFor(worth, n - i, made, 1);
                if (claim == NONE || i == k) {
                    return claim;
                }
                made |= 1 << claim;
            }
            return NONE;
        }

        int openingOf(int n) {
            return firstFor(bestBy(n), n, court.made, -1);
        }

        private void prepare(int n) {
            for (int made = court.made; made < 1 << court.claims; made++) {
                if (isWithin(claimsMore(made), 0, n)) {
                    best[indexOf(0, made)] = 0;
                    for (int claim = 0; claim < court.claims; claim++) {
                        yields[made * MOST_CLAIMS + claim] = court.yieldUnder(made, claim);
                    }
                }
            }
        }

        /** How many CLAIMS more than now are in a set; NONE if one that is MADE is not in it. */
        private int claimsMore(int set) {
            boolean isReached = (set & court.made) == court.made;
            return isReached ? Integer.bitCount(set & ~court.made) : NONE;
        }

        private static int indexOf(int left, int made) {
            return left * SETS_OF_CLAIMS + made;
        }

        private int bestFrom(int left, int made, int none, int side) {
            int most = none;
            for (int claim = 0; claim < court.claims; claim++) {
                if ((made & 1 << claim) == 0) {
                    most = Math.max(most, worthOf(claim, left, made, side));
                }
            }
            return most;
        }

        private int firstFor(int worth, int left, int made, int side) {
            for (int claim = 0; claim < court.claims; claim++) {
                if ((made & 1 << claim) == 0 && worthOf(claim, left, made, side) == worth) {
                    return claim;
                }
            }
            return NONE;
        }

        // What comes behind is for the same one (side 1) or for the other one (side -1).
        private int worthOf(int claim, int left, int made, int side) {
            int behind = best[indexOf(left - 1, made | 1 << claim)];
            return yields[made * MOST_CLAIMS + claim] + side * behind;
        }
    }
}
