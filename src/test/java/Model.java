import java.math.BigInteger;
import java.util.ArrayList;
import java.util.HashMap;
import java.util.HashSet;
import java.util.List;
import java.util.Map;
import java.util.Set;
import java.util.TreeSet;

/** The document once more, by lists and plain recursion, as slow as it likes: what SaffronCourt is held against. */
public final class Model {
    private static final Set<String> KEYWORDS = Set.of(("odds bed crocus sham case weight claim at cost of scholar gold "
        + "make walk pick night forget any when made loop end stop").split(" "));

    private static final class Refusal extends RuntimeException {
        final int status;

        Refusal(int status) {
            super(null, null, false, false);
            this.status = status;
        }
    }

    private static final class Fault extends RuntimeException {
        final int kind;
        final int place;

        Fault(int kind, int place) {
            super(null, null, false, false);
            this.kind = kind;
            this.place = place;
        }
    }

    private static final class Halt extends RuntimeException {
        Halt() {
            super(null, null, false, false);
        }
    }

    private static final class Bed {
        int crocus;
        int sham;
    }

    private static final class Claim {
        String name;
        int bed;
        int cost = 1;
        boolean made;
        final TreeSet<Integer> of = new TreeSet<>();
    }

    private static final class Scholar {
        String name;
        int bed;
        int gold;
    }

    private static final class Step {
        String word;
        String test;
        int thing;
        String sign;
        int number;
        List<Step> body;
    }

    private static final class State {
        int odds = 8;
        int night;
        final List<Bed> beds = new ArrayList<>();
        final List<Integer> weights = new ArrayList<>();
        final List<Claim> claims = new ArrayList<>();
        final List<Scholar> scholars = new ArrayList<>();
        List<Step> terms;

        State copy() {
            State c = new State();
            c.odds = odds;
            c.night = night;
            for (Bed b : beds) {
                Bed n = new Bed();
                n.crocus = b.crocus;
                n.sham = b.sham;
                c.beds.add(n);
            }
            c.weights.addAll(weights);
            for (Claim b : claims) {
                Claim n = new Claim();
                n.name = b.name;
                n.bed = b.bed;
                n.cost = b.cost;
                n.made = b.made;
                n.of.addAll(b.of);
                c.claims.add(n);
            }
            for (Scholar b : scholars) {
                Scholar n = new Scholar();
                n.name = b.name;
                n.bed = b.bed;
                n.gold = b.gold;
                c.scholars.add(n);
            }
            c.terms = terms;
            return c;
        }
    }

    private State now = new State();
    private final List<State> marks = new ArrayList<>();
    private final long[][] trays = new long[4][];
    private final int[] sorts = new int[4];
    private final List<Integer> tape = new ArrayList<>();
    private int status;
    private BigInteger top = BigInteger.ZERO;
    private BigInteger bottom = BigInteger.ONE;
    private int[] fault;
    private int[] lived;

    private interface Answer {
        long get();
    }

    private long answer(Answer a) {
        try {
            long v = a.get();
            status = 0;
            return v;
        } catch (Refusal r) {
            status = r.status;
            return -1;
        }
    }

    private boolean granted(Answer a) {
        answer(a);
        return status == 0;
    }

    private static void need(boolean so, int status) {
        if (!so) {
            throw new Refusal(status);
        }
    }

    private static <T> T one(List<T> list, int i) {
        need(i >= 0 && i < list.size(), 1);
        return list.get(i);
    }

    private static void range(int v, int low, int high) {
        need(v >= low && v <= high, 1);
    }

    // ---- the plain ones

    public int status() {
        return status;
    }

    public long top() {
        return top.longValueExact();
    }

    public long bottom() {
        return bottom.longValueExact();
    }

    private long tell(BigInteger a, BigInteger b) {
        BigInteger g = a.gcd(b);
        top = a.divide(g);
        bottom = b.divide(g);
        return 1;
    }

    public boolean tray(int tray, int sort, int many) {
        return granted(() -> {
            range(tray, 0, 3);
            range(sort, 0, 3);
            range(many, 0, 60);
            trays[tray] = new long[many];
            sorts[tray] = sort;
            return 1;
        });
    }

    private long[] trayAt(int tray) {
        range(tray, 0, 3);
        need(trays[tray] != null, 2);
        return trays[tray];
    }

    private void put(int tray, int place, long v) {
        int bits = 8 << sorts[tray];
        trays[tray][place] = v << 64 - bits >> 64 - bits;
    }

    public boolean write(int tray, int place, long v) {
        return granted(() -> {
            long[] t = trayAt(tray);
            need(place >= 0 && place < t.length, 3);
            put(tray, place, v);
            return 1;
        });
    }

    public long read(int tray, int place) {
        return answer(() -> {
            long[] t = trayAt(tray);
            need(place >= 0 && place < t.length, 3);
            return t[place];
        });
    }

    public boolean pour(int from, int place, int to, int at, int many) {
        return granted(() -> {
            range(from, 0, 3);
            range(to, 0, 3);
            need(place >= 0 && at >= 0 && many >= 0, 1);
            long[] f = trayAt(from);
            long[] t = trayAt(to);
            need(sorts[from] == sorts[to], 8);
            need((long) place + many <= f.length && (long) at + many <= t.length, 3);
            long[] were = f.clone();
            for (int i = 0; i < many; i++) {
                t[at + i] = were[place + i];
            }
            return 1;
        });
    }

    public int feed(int a, int b, int c, int d, int e) {
        if (tape.size() > 880) {
            return -1;
        }
        for (int v : new int[] {a, b, c, d, e}) {
            tape.add(v >> 24 & 255);
            tape.add(v >> 16 & 255);
            tape.add(v >> 8 & 255);
            tape.add(v & 255);
        }
        return tape.size();
    }

    // ---- texts

    private record Token(char kind, String text, int place) {
    }

    private static final class Parser {
        final List<Token> tokens = new ArrayList<>();
        int at;
        int depth;
        int steps;

        Parser(List<Integer> bytes) {
            int i = 0;
            while (i < bytes.size()) {
                int c = bytes.get(i);
                int start = i;
                StringBuilder text = new StringBuilder();
                if (c >= 'a' && c <= 'z') {
                    for (; i < bytes.size() && bytes.get(i) >= 'a' && bytes.get(i) <= 'z'; i++) {
                        text.append((char) (int) bytes.get(i));
                    }
                    tokens.add(new Token('w', text.toString(), start));
                } else if (c >= '0' && c <= '9') {
                    for (; i < bytes.size() && bytes.get(i) >= '0' && bytes.get(i) <= '9'; i++) {
                        text.append((char) (int) bytes.get(i));
                    }
                    tokens.add(new Token(text.length() > 4 ? '?' : 'n', text.toString(), start));
                } else {
                    i++;
                    if (";<>=".indexOf(c) >= 0) {
                        tokens.add(new Token('s', String.valueOf((char) c), start));
                    } else if (c != 10 && c != 32) {
                        tokens.add(new Token('?', "", start));
                    }
                }
            }
            tokens.add(new Token('$', "", bytes.size()));
        }

        Token here() {
            Token t = tokens.get(at);
            if (t.kind == '?') {
                throw new Fault(1, t.place);
            }
            return t;
        }

        boolean is(String text) {
            Token t = here();
            return t.kind != '$' && t.text.equals(text);
        }

        void fail(int kind) {
            throw new Fault(kind, here().place);
        }

        void want(String text) {
            if (!is(text)) {
                fail(2);
            }
            at++;
        }

        int number(int low, int high) {
            Token t = here();
            if (t.kind != 'n') {
                fail(2);
            }
            int v = Integer.parseInt(t.text);
            if (v < low || v > high) {
                fail(4);
            }
            at++;
            return v;
        }

        boolean isName() {
            Token t = here();
            return t.kind == 'w' && t.text.length() <= 8 && !KEYWORDS.contains(t.text);
        }

        String name() {
            if (!isName()) {
                fail(2);
            }
            return here().text;
        }

        State court() {
            State s = new State();
            Map<String, Integer> cases = new HashMap<>();
            Set<String> taken = new HashSet<>();
            boolean odds = false;
            while (here().kind != '$') {
                if (is("odds")) {
                    if (odds) {
                        fail(5);
                    }
                    odds = true;
                    at++;
                    s.odds = number(0, 16);
                } else if (is("bed")) {
                    limit(s.beds.size(), 6);
                    Bed b = new Bed();
                    if (is("crocus")) {
                        at++;
                        b.crocus = number(0, 99);
                    }
                    if (is("sham")) {
                        at++;
                        b.sham = number(0, 99);
                    }
                    s.beds.add(b);
                } else if (is("case")) {
                    limit(s.weights.size(), 8);
                    cases.put(fresh(taken), s.weights.size());
                    want("weight");
                    s.weights.add(number(1, 20));
                } else if (is("claim")) {
                    limit(s.claims.size(), 7);
                    claim(s, cases, taken);
                } else if (is("scholar")) {
                    limit(s.scholars.size(), 4);
                    Scholar b = new Scholar();
                    b.name = fresh(taken);
                    want("at");
                    b.bed = number(0, s.beds.size() - 1);
                    if (is("gold")) {
                        at++;
                        b.gold = number(0, 999);
                    }
                    s.scholars.add(b);
                } else {
                    fail(2);
                }
                want(";");
            }
            return s;
        }

        private void limit(int size, int most) {
            if (size == most) {
                fail(6);
            }
            at++;
        }

        private String fresh(Set<String> taken) {
            String name = name();
            if (!taken.add(name)) {
                fail(3);
            }
            at++;
            return name;
        }

        private void claim(State s, Map<String, Integer> cases, Set<String> taken) {
            Claim b = new Claim();
            b.name = fresh(taken);
            want("at");
            b.bed = number(0, s.beds.size() - 1);
            if (is("cost")) {
                at++;
                b.cost = number(1, 9);
            }
            want("of");
            while (!is(";")) {
                String name = name();
                if (!cases.containsKey(name)) {
                    fail(3);
                }
                if (!b.of.add(cases.get(name))) {
                    fail(5);
                }
                at++;
            }
            s.claims.add(b);
        }

        List<Step> steps(State s) {
            List<Step> list = new ArrayList<>();
            while (here().kind != '$' && !(depth > 0 && is("end"))) {
                list.add(step(s));
            }
            return list;
        }

        private Step step(State s) {
            Step step = new Step();
            step.word = here().text;
            if (!Set.of("make", "walk", "pick", "night", "forget", "any", "when", "loop", "stop").contains(step.word)) {
                fail(2);
            }
            if (steps == 30) {
                fail(6);
            }
            steps++;
            boolean opens = step.word.equals("when") || step.word.equals("loop");
            if (opens && depth == 3) {
                fail(7);
            }
            at++;
            switch (step.word) {
                case "make" -> step.thing = claimNamed(s);
                case "walk" -> {
                    step.thing = scholarNamed(s);
                    step.number = number(0, s.beds.size() - 1);
                }
                case "pick" -> step.thing = scholarNamed(s);
                case "night" -> step.number = number(1, 40);
                case "loop" -> step.number = number(1, 99);
                case "when" -> test(step, s);
                default -> { }
            }
            want(";");
            if (opens) {
                depth++;
                step.body = steps(s);
                want("end");
                want(";");
                depth--;
            }
            return step;
        }

        private void test(Step step, State s) {
            step.test = here().text;
            if (is("made")) {
                at++;
                step.thing = claimNamed(s);
                return;
            }
            if (is("crocus")) {
                at++;
                step.thing = number(0, s.beds.size() - 1);
            } else if (is("gold")) {
                at++;
                step.thing = scholarNamed(s);
            } else {
                fail(2);
            }
            step.sign = here().text;
            if (here().kind != 's' || is(";")) {
                fail(2);
            }
            at++;
            step.number = number(0, 9999);
        }

        private int claimNamed(State s) {
            String name = name();
            for (int i = 0; i < s.claims.size(); i++) {
                if (name.equals(s.claims.get(i).name)) {
                    at++;
                    return i;
                }
            }
            throw new Fault(3, here().place);
        }

        private int scholarNamed(State s) {
            String name = name();
            for (int i = 0; i < s.scholars.size(); i++) {
                if (name.equals(s.scholars.get(i).name)) {
                    at++;
                    return i;
                }
            }
            throw new Fault(3, here().place);
        }
    }

    private Parser open(int n) {
        Parser p = new Parser(new ArrayList<>(tape.subList(0, n)));
        tape.clear();
        fault = new int[] {0, -1};
        return p;
    }

    private void faulty(Fault f) {
        fault = new int[] {f.kind, f.place};
        throw new Refusal(9);
    }

    public int court(int n) {
        return (int) answer(() -> {
            range(n, 0, tape.size());
            try {
                now = open(n).court();
            } catch (Fault f) {
                faulty(f);
            }
            return now.claims.size();
        });
    }

    public int terms(int n) {
        return (int) answer(() -> {
            range(n, 0, Math.min(300, tape.size()));
            Parser p = open(n);
            try {
                now.terms = p.steps(now);
            } catch (Fault f) {
                faulty(f);
            }
            return p.steps;
        });
    }

    public int fault(int what) {
        return fault == null || what < 0 || what > 1 ? -1 : fault[what];
    }

    // ---- what is told

    private static String signature(State s, int which) {
        StringBuilder t = new StringBuilder();
        for (Claim c : s.claims) {
            if (c.made) {
                t.append(c.of.contains(which) ? 'y' : 'n');
            }
        }
        return t.toString();
    }

    private static Map<String, List<Integer>> parts(State s) {
        Map<String, List<Integer>> parts = new HashMap<>();
        for (int i = 0; i < s.weights.size(); i++) {
            parts.computeIfAbsent(signature(s, i), k -> new ArrayList<>()).add(i);
        }
        return parts;
    }

    private static int yieldOf(State s, Claim c) {
        if (c.made) {
            return 0;
        }
        int all = 0;
        for (List<Integer> part : parts(s).values()) {
            int yes = 0;
            for (int which : part) {
                yes += c.of.contains(which) ? 1 : 0;
            }
            all += 3 * Math.min(yes, part.size() - yes);
        }
        return all;
    }

    private static int made(State s) {
        int set = 0;
        for (int i = 0; i < s.claims.size(); i++) {
            set += s.claims.get(i).made ? 1 << i : 0;
        }
        return set;
    }

    private static int gold(State s) {
        return s.scholars.stream().mapToInt(x -> x.gold).sum();
    }

    private static int crocuses(State s) {
        return s.beds.stream().mapToInt(x -> x.crocus).sum();
    }

    public int told(int what) {
        return (int) answer(() -> {
            range(what, 0, 10);
            return new int[] {now.beds.size(), now.weights.size(), now.claims.size(), now.scholars.size(), now.odds,
                now.night, made(now), crocuses(now), now.beds.stream().mapToInt(x -> x.sham).sum(), gold(now),
                parts(now).size()}[what];
        });
    }

    public int bed(int bed, int what) {
        return (int) answer(() -> {
            Bed b = one(now.beds, bed);
            range(what, 0, 1);
            return what == 0 ? b.crocus : b.sham;
        });
    }

    public int weight(int which) {
        return (int) answer(() -> one(now.weights, which));
    }

    private static int set(Iterable<Integer> members) {
        int set = 0;
        for (int m : members) {
            set |= 1 << m;
        }
        return set;
    }

    public int claim(int claim, int what) {
        return (int) answer(() -> {
            Claim c = one(now.claims, claim);
            range(what, 0, 3);
            return new int[] {c.bed, c.cost, set(c.of), yieldOf(now, c)}[what];
        });
    }

    public int scholar(int scholar, int what) {
        return (int) answer(() -> {
            Scholar c = one(now.scholars, scholar);
            range(what, 0, 1);
            return what == 0 ? c.bed : c.gold;
        });
    }

    // ---- what is done

    private static int doMake(State s, Claim c) {
        int y = yieldOf(s, c);
        c.made = true;
        Bed b = s.beds.get(c.bed);
        for (int i = 0; i < y && b.crocus < 9999; i++) {
            b.crocus++;
        }
        return y;
    }

    private static int doPick(State s, Scholar c) {
        Bed b = s.beds.get(c.bed);
        int many = b.crocus;
        b.crocus = 0;
        c.gold = Math.min(c.gold + many, 9999);
        return many;
    }

    private static void doNights(State s, int nights) {
        for (int i = 0; i < nights; i++) {
            s.night++;
            for (Bed b : s.beds) {
                if (b.crocus > 0) {
                    b.crocus--;
                    b.sham = b.sham == 99 ? 99 : b.sham + 1;
                }
            }
        }
    }

    public int make(int claim) {
        return (int) answer(() -> {
            Claim c = one(now.claims, claim);
            need(!c.made, 7);
            return doMake(now, c);
        });
    }

    public int recant(int claim) {
        return (int) answer(() -> {
            Claim c = one(now.claims, claim);
            need(c.made, 7);
            c.made = false;
            return now.claims.stream().filter(x -> x.made).count();
        });
    }

    public int forget() {
        return (int) answer(() -> {
            long were = now.claims.stream().filter(x -> x.made).count();
            need(were > 0, 7);
            now.claims.forEach(x -> x.made = false);
            return were;
        });
    }

    public int walk(int scholar, int bed) {
        return (int) answer(() -> {
            Scholar c = one(now.scholars, scholar);
            one(now.beds, bed);
            need(c.bed != bed, 7);
            int steps = c.bed < bed ? bed - c.bed : c.bed - bed;
            c.bed = bed;
            return steps;
        });
    }

    public int pick(int scholar) {
        return (int) answer(() -> {
            Scholar c = one(now.scholars, scholar);
            need(now.beds.get(c.bed).crocus > 0, 7);
            return doPick(now, c);
        });
    }

    public int night(int nights) {
        return (int) answer(() -> {
            range(nights, 1, 99);
            need(now.night + nights <= 9999, 4);
            doNights(now, nights);
            return crocuses(now);
        });
    }

    public int weed(int bed) {
        return (int) answer(() -> {
            Bed b = one(now.beds, bed);
            need(b.sham > 0, 7);
            int were = b.sham;
            b.sham = 0;
            return were;
        });
    }

    public boolean teach(int claim, int which, boolean is) {
        return granted(() -> {
            Claim c = one(now.claims, claim);
            one(now.weights, which);
            need(c.of.contains(which) != is, 7);
            if (is) {
                c.of.add(which);
            } else {
                c.of.remove(which);
            }
            return 1;
        });
    }

    public int weigh(int which, int weight) {
        return (int) answer(() -> {
            one(now.weights, which);
            range(weight, 1, 20);
            return now.weights.set(which, weight);
        });
    }

    private List<Integer> members(int cases) {
        range(cases, 0, (1 << now.weights.size()) - 1);
        List<Integer> list = new ArrayList<>();
        for (int i = 0; i < now.weights.size(); i++) {
            if ((cases >> i & 1) == 1) {
                list.add(i);
            }
        }
        return list;
    }

    public int think(int cases, int bed, int cost) {
        return (int) answer(() -> {
            Claim c = new Claim();
            c.of.addAll(members(cases));
            one(now.beds, bed);
            range(cost, 1, 9);
            need(now.claims.size() < 7, 4);
            c.bed = bed;
            c.cost = cost;
            now.claims.add(c);
            return now.claims.size() - 1;
        });
    }

    public boolean rule(int odds) {
        return granted(() -> {
            range(odds, 0, 16);
            now.odds = odds;
            return 1;
        });
    }

    // ---- what is parted

    public int partOf(int which) {
        return (int) answer(() -> {
            one(now.weights, which);
            return set(parts(now).get(signature(now, which)));
        });
    }

    public int couples() {
        return (int) answer(() -> {
            int many = 0;
            for (List<Integer> part : parts(now).values()) {
                many += part.size() * (part.size() - 1) / 2;
            }
            return many;
        });
    }

    private boolean parts(Claim c, int which, int other) {
        return c.of.contains(which) != c.of.contains(other);
    }

    public int parting(int which, int other) {
        return (int) answer(() -> {
            one(now.weights, which);
            one(now.weights, other);
            need(which != other, 1);
            List<Integer> set = new ArrayList<>();
            for (int i = 0; i < now.claims.size(); i++) {
                if (parts(now.claims.get(i), which, other)) {
                    set.add(i);
                }
            }
            return set(set);
        });
    }

    public int barren() {
        return (int) answer(() -> {
            int set = 0;
            for (Claim c : now.claims) {
                set |= !c.made && yieldOf(now, c) == 0 ? 1 << now.claims.indexOf(c) : 0;
            }
            return set;
        });
    }

    private static boolean isAhead(List<Integer> a, List<Integer> b) {
        for (int i = 0; i < a.size() && i < b.size(); i++) {
            if (!a.get(i).equals(b.get(i))) {
                return a.get(i) < b.get(i);
            }
        }
        return a.size() < b.size();
    }

    private int bestMost;
    private List<Integer> bestRow;

    private void rows(State s, List<Integer> row, int sum, int n) {
        if (bestRow == null || sum > bestMost || sum == bestMost && isAhead(row, bestRow)) {
            bestMost = sum;
            bestRow = new ArrayList<>(row);
        }
        // From the last claim on, so that the order in which rows come does not help.
        for (int i = s.claims.size() - 1; i >= 0 && n > 0; i--) {
            Claim c = s.claims.get(i);
            if (!c.made) {
                int y = yieldOf(s, c);
                c.made = true;
                row.add(i);
                rows(s, row, sum + y, n - 1);
                row.remove(row.size() - 1);
                c.made = false;
            }
        }
    }

    public int most(int n) {
        return (int) answer(() -> {
            range(n, 0, 3);
            bestRow = null;
            rows(now.copy(), new ArrayList<>(), 0, n);
            return bestMost;
        });
    }

    public int first(int n, int k) {
        return (int) answer(() -> {
            range(n, 0, 3);
            need(k >= 0, 1);
            bestRow = null;
            rows(now.copy(), new ArrayList<>(), 0, n);
            need(k < bestRow.size(), 6);
            return bestRow.get(k);
        });
    }

    private int fewestOf(int cases) {
        List<Integer> members = members(cases);
        for (int size = 0; size <= now.claims.size(); size++) {
            for (int set = 0; set < 1 << now.claims.size(); set++) {
                if (Integer.bitCount(set) == size && partAll(members, set)) {
                    return set;
                }
            }
        }
        throw new Refusal(6);
    }

    private boolean partAll(List<Integer> members, int set) {
        for (int a : members) {
            for (int b : members) {
                boolean parted = a == b;
                for (int i = 0; i < now.claims.size(); i++) {
                    parted |= (set >> i & 1) == 1 && parts(now.claims.get(i), a, b);
                }
                if (!parted) {
                    return false;
                }
            }
        }
        return true;
    }

    public int fewest(int cases) {
        return (int) answer(() -> Integer.bitCount(fewestOf(cases)));
    }

    public int fewestSet(int cases) {
        return (int) answer(() -> fewestOf(cases));
    }

    // ---- trees

    private static final int NO_TREE = 1000000;

    private int[] tree(List<Integer> set, boolean dear) {
        if (set.size() == 1) {
            return new int[] {0, -1};
        }
        int[] best = {NO_TREE, -1};
        for (int i = 0; i < now.claims.size(); i++) {
            List<Integer> yes = new ArrayList<>(set);
            yes.retainAll(now.claims.get(i).of);
            List<Integer> no = new ArrayList<>(set);
            no.removeAll(now.claims.get(i).of);
            if (yes.isEmpty() || no.isEmpty()) {
                continue;
            }
            int y = tree(yes, dear)[0];
            int n = tree(no, dear)[0];
            int weight = set.stream().mapToInt(now.weights::get).sum();
            int v = dear ? y + n + weight * now.claims.get(i).cost : Math.max(y, n) + 1;
            if (y < NO_TREE && n < NO_TREE && v < best[0]) {
                best = new int[] {v, i};
            }
        }
        return best;
    }

    private int treeOf(int cases, boolean dear, boolean ask) {
        return (int) answer(() -> {
            List<Integer> set = members(cases);
            need(!set.isEmpty(), 1);
            int[] best = tree(set, dear);
            need(best[0] < NO_TREE, 6);
            need(!ask || best[1] >= 0, 6);
            return best[ask ? 1 : 0];
        });
    }

    public int deep(int cases) {
        return treeOf(cases, false, false);
    }

    public int askDeep(int cases) {
        return treeOf(cases, false, true);
    }

    public int dear(int cases) {
        return treeOf(cases, true, false);
    }

    public int askDear(int cases) {
        return treeOf(cases, true, true);
    }

    // ---- which case it is

    private List<Integer> fitting(int tray, int n) {
        range(n, 0, 20);
        long[] t = trayAt(tray);
        need(t.length >= 2 * n, 3);
        List<Integer> fit = members((1 << now.weights.size()) - 1);
        for (int i = 0; i < n; i++) {
            long c = t[2 * i];
            long is = t[2 * i + 1];
            need(c >= 0 && c < now.claims.size() && (is == 0 || is == 1), 5);
            fit.removeIf(which -> now.claims.get((int) c).of.contains(which) != (is == 1));
        }
        return fit;
    }

    public int fits(int tray, int n) {
        return (int) answer(() -> set(fitting(tray, n)));
    }

    public int likely(int tray, int n) {
        return (int) answer(() -> {
            List<Integer> fit = fitting(tray, n);
            need(!fit.isEmpty(), 6);
            int best = fit.get(0);
            for (int which : fit) {
                best = now.weights.get(which) > now.weights.get(best) ? which : best;
            }
            return best;
        });
    }

    public boolean oddsThat(int tray, int n, int which) {
        return granted(() -> {
            one(now.weights, which);
            List<Integer> fit = fitting(tray, n);
            need(!fit.isEmpty(), 6);
            int all = fit.stream().mapToInt(now.weights::get).sum();
            int its = fit.contains(which) ? now.weights.get(which) : 0;
            return tell(BigInteger.valueOf(its), BigInteger.valueOf(all));
        });
    }

    public int next(int tray, int n) {
        return (int) answer(() -> {
            List<Integer> fit = fitting(tray, n);
            need(fit.size() >= 2, 6);
            int best = -1;
            int least = 99;
            for (int i = 0; i < now.claims.size(); i++) {
                long yes = fit.stream().filter(now.claims.get(i).of::contains).count();
                int greater = (int) Math.max(yes, fit.size() - yes);
                if (yes > 0 && yes < fit.size() && greater < least) {
                    least = greater;
                    best = i;
                }
            }
            need(best >= 0, 6);
            return best;
        });
    }

    // ---- picking, games, odds

    private int[] walks(int bed, int picked, int sum, int steps, int n) {
        int more = (picked >> bed & 1) == 1 ? 0 : now.beds.get(bed).crocus;
        int[] best = {sum + more, steps};
        for (int to = bed - 1; to <= bed + 1 && steps < n; to += 2) {
            if (to >= 0 && to < now.beds.size()) {
                int[] by = walks(to, picked | 1 << bed, sum + more, steps + 1, n);
                if (by[0] > best[0] || by[0] == best[0] && by[1] < best[1]) {
                    best = by;
                }
            }
        }
        return best;
    }

    private int walked(int scholar, int n, int what) {
        return (int) answer(() -> {
            Scholar c = one(now.scholars, scholar);
            range(n, 0, 12);
            return walks(c.bed, 0, 0, 0, n)[what];
        });
    }

    public int gather(int scholar, int n) {
        return walked(scholar, n, 0);
    }

    public int brisk(int scholar, int n) {
        return walked(scholar, n, 1);
    }

    /** What comes up by the first less what comes up by the second, and the move of the one whose turn it is. */
    private int[] play(State s, int n, boolean isFirst) {
        if (n == 0) {
            return new int[] {0, -1};
        }
        int[] best = null;
        for (int i = 0; i < s.claims.size(); i++) {
            Claim c = s.claims.get(i);
            if (!c.made) {
                int y = yieldOf(s, c);
                c.made = true;
                int v = play(s, n - 1, !isFirst)[0] + (isFirst ? y : -y);
                c.made = false;
                if (best == null || (isFirst ? v > best[0] : v < best[0])) {
                    best = new int[] {v, i};
                }
            }
        }
        int v = play(s, n - 1, !isFirst)[0];
        return best == null || (isFirst ? v > best[0] : v < best[0]) ? new int[] {v, -1} : best;
    }

    public int game(int n) {
        return (int) answer(() -> {
            range(n, 0, 4);
            return play(now.copy(), n, true)[0];
        });
    }

    public int moveOf(int n) {
        return (int) answer(() -> {
            range(n, 1, 4);
            int move = play(now.copy(), n, true)[1];
            need(move >= 0, 6);
            return move;
        });
    }

    private static BigInteger orders(int crocus, int sham, int n, int k) {
        if (n == 0) {
            return k <= 0 ? BigInteger.ONE : BigInteger.ZERO;
        }
        BigInteger all = BigInteger.ZERO;
        if (crocus > 0) {
            all = all.add(orders(crocus - 1, sham, n - 1, k - 1).multiply(BigInteger.valueOf(crocus)));
        }
        if (sham > 0) {
            all = all.add(orders(crocus, sham - 1, n - 1, k).multiply(BigInteger.valueOf(sham)));
        }
        return all;
    }

    public boolean blind(int bed, int n, int k) {
        return granted(() -> {
            Bed b = one(now.beds, bed);
            range(n, 0, 4);
            range(k, 0, 4);
            need(b.crocus + b.sham >= n, 6);
            return tell(orders(b.crocus, b.sham, n, k), orders(b.crocus, b.sham, n, 0));
        });
    }

    public boolean share(int scholar) {
        return granted(() -> {
            Scholar c = one(now.scholars, scholar);
            need(gold(now) > 0, 6);
            return tell(BigInteger.valueOf(c.gold), BigInteger.valueOf(gold(now)));
        });
    }

    public int copyBeds(int tray) {
        return (int) answer(() -> {
            long[] t = trayAt(tray);
            need(t.length >= now.beds.size(), 3);
            for (int i = 0; i < now.beds.size(); i++) {
                put(tray, i, now.beds.get(i).crocus);
            }
            return now.beds.size();
        });
    }

    // ---- TERMS

    private static final class Run {
        final State s;
        long drawn;
        int done;
        final int[] told = new int[5];

        Run(State s, int seed) {
            this.s = s;
            drawn = seed;
            try {
                steps(s.terms);
            } catch (Halt h) {
                // stopped
            }
        }

        int draw(int n) {
            drawn = (drawn * 3229 + 11453) % 65536;
            return (int) (drawn / 8 % n);
        }

        void steps(List<Step> steps) {
            for (Step step : steps) {
                if (done == 300) {
                    told[4] = 1;
                    throw new Halt();
                }
                done++;
                step(step);
            }
        }

        void make(Claim c) {
            if (c.made) {
                told[0]++;
            } else {
                told[1] += doMake(s, c);
            }
        }

        void pick(Scholar c) {
            int many = doPick(s, c);
            told[2] += many;
            told[0] += many == 0 ? 1 : 0;
        }

        void any() {
            if (s.claims.isEmpty() || s.scholars.isEmpty()) {
                told[0]++;
                return;
            }
            Claim c = s.claims.get(draw(s.claims.size()));
            Scholar b = s.scholars.get(draw(s.scholars.size()));
            if (draw(16) < s.odds) {
                make(c);
            } else {
                pick(b);
            }
        }

        void step(Step step) {
            switch (step.word) {
                case "make" -> make(s.claims.get(step.thing));
                case "walk" -> {
                    Scholar c = s.scholars.get(step.thing);
                    told[0] += c.bed == step.number ? 1 : 0;
                    c.bed = step.number;
                }
                case "pick" -> pick(s.scholars.get(step.thing));
                case "night" -> {
                    if (s.night + step.number > 9999) {
                        told[0]++;
                    } else {
                        told[3] += step.number;
                        doNights(s, step.number);
                    }
                }
                case "forget" -> {
                    told[0] += made(s) == 0 ? 1 : 0;
                    s.claims.forEach(c -> c.made = false);
                }
                case "any" -> any();
                case "when" -> {
                    if (holds(step)) {
                        steps(step.body);
                    }
                }
                case "loop" -> {
                    for (int i = 0; i < step.number; i++) {
                        steps(step.body);
                    }
                }
                default -> throw new Halt();
            }
        }

        boolean holds(Step step) {
            if (step.test.equals("made")) {
                return s.claims.get(step.thing).made;
            }
            int v = step.test.equals("gold") ? s.scholars.get(step.thing).gold : s.beds.get(step.thing).crocus;
            return step.sign.equals("<") && v < step.number || step.sign.equals(">") && v > step.number
                || step.sign.equals("=") && v == step.number;
        }
    }

    public int live(int seed) {
        return (int) answer(() -> {
            range(seed, 0, 9999);
            need(now.terms != null, 6);
            Run run = new Run(now, seed);
            lived = run.told;
            return run.done;
        });
    }

    public int lived(int what) {
        return (int) answer(() -> {
            range(what, 0, 4);
            need(lived != null, 6);
            return lived[what];
        });
    }

    public boolean mean(int seed, int many) {
        return granted(() -> {
            range(seed, 0, 9999);
            range(many, 1, 20);
            range(seed + many - 1, 0, 9999);
            need(now.terms != null, 6);
            int all = 0;
            for (int i = 0; i < many; i++) {
                all += gold(new Run(now.copy(), seed + i).s);
            }
            return tell(BigInteger.valueOf(all), BigInteger.valueOf(many));
        });
    }

    // ---- MARKS

    public int mark() {
        return (int) answer(() -> {
            need(marks.size() < 3, 4);
            marks.add(now.copy());
            return marks.size();
        });
    }

    public int undo() {
        return (int) answer(() -> {
            need(!marks.isEmpty(), 6);
            now = marks.remove(marks.size() - 1);
            return marks.size();
        });
    }
}
