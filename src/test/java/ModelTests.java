import java.lang.reflect.Method;
import java.nio.charset.StandardCharsets;
import java.util.ArrayList;
import java.util.HashMap;
import java.util.List;
import java.util.Map;
import java.util.Random;

/** Holds the program against the Model by runs of calls drawn from fixed seeds. */
public final class ModelTests {
    private static final int RUNS = 1500;
    private static final int CALLS = 500;

    // Of each argument the least and the greatest, or one of the beds (b), cases (w), claims (k), scholars (s),
    // sets of cases (c), trays (t).
    private static final String[] CALLED = {
        "tray t -1:4 -1:61", "tray t 0:3 0:40", "write t 0:20 -2:9", "write t 0:20 -1:1", "read t -1:60", "pour t -1:20 t -1:20 -1:20",
        "told -1:11", "bed b -1:2", "weight w", "claim k -1:4", "claim k 3:3", "scholar s -1:2",
        "make k", "make k", "recant k", "forget", "walk s b", "pick s", "night 0:6", "night 0:100",
        "weed b", "teach k w 0:1", "weigh w 0:21", "think c b 0:10", "rule -1:17",
        "partOf w", "couples", "parting w w", "barren", "most 0:3", "most -1:4", "first -1:4 -1:4", "first 1:3 0:2",
        "fewest c", "fewestSet c", "deep c", "askDeep c", "dear c", "askDear c",
        "fits t 0:4", "likely t 0:4", "oddsThat t 0:4 w", "next t 0:3", "fits t -1:21",
        "gather s -1:13", "brisk s -1:13", "game -1:5", "moveOf 0:4", "moveOf -1:5", "blind b -1:5 -1:5", "share s",
        "copyBeds t", "live 0:9999", "live -1:10000", "lived -1:5", "lived 0:4", "mean 0:9990 1:9", "mean 9970:10001 -1:21",
        "mark", "undo", "fault -1:2", "feed 0:9 0:9 0:9 0:9 0:9"};

    private final Random random;
    private final Map<String, Method> real = new HashMap<>();
    private final Map<String, Method> modelled = new HashMap<>();
    private final List<String> said = new ArrayList<>();
    private int beds;
    private int cases;
    private int claims;
    private int scholars;
    private SaffronCourt x;
    private Model model;

    private ModelTests(long seed) {
        random = new Random(seed);
        for (Method m : SaffronCourt.class.getDeclaredMethods()) {
            real.put(m.getName(), m);
        }
        for (Method m : Model.class.getDeclaredMethods()) {
            if (java.lang.reflect.Modifier.isPublic(m.getModifiers())) {
                modelled.put(m.getName(), m);
            }
        }
    }

    private int between(int low, int high) {
        return low + random.nextInt(Math.max(1, high - low + 1));
    }

    private boolean chance(int percent) {
        return random.nextInt(100) < percent;
    }

    private static long number(Object o) {
        return o instanceof Boolean b ? (b ? 1 : 0) : ((Number) o).longValue();
    }

    private void call(String name, Object... args) throws ReflectiveOperationException {
        String row = name + java.util.Arrays.toString(args);
        said.add(row);
        long got = number(real.get(name).invoke(x, args));
        long want = number(modelled.get(name).invoke(model, args));
        Check.due(row, got, want);
        Check.due(row + " status", x.status(), model.status());
        Check.due(row + " top", x.top(), model.top());
        Check.due(row + " bottom", x.bottom(), model.bottom());
    }

    private void drawnCall() throws ReflectiveOperationException {
        String[] words = CALLED[random.nextInt(CALLED.length)].split(" ");
        Class<?>[] types = real.get(words[0]).getParameterTypes();
        Object[] args = new Object[types.length];
        for (int i = 0; i < types.length; i++) {
            int v = argument(words[i + 1]);
            if (chance(1)) {
                v = chance(50) ? random.nextInt() : chance(50) ? Integer.MAX_VALUE : Integer.MIN_VALUE;
            }
            if (types[i] == boolean.class) {
                args[i] = (v & 1) == 1;
            } else if (types[i] == long.class) {
                args[i] = chance(5) ? random.nextLong() : (long) v;
            } else {
                args[i] = v;
            }
        }
        call(words[0], args);
        countAgain(words[0]);
    }

    private int argument(String word) {
        switch (word) {
            case "b": return oneOf(beds);
            case "w": return oneOf(cases);
            case "k": return oneOf(claims);
            case "s": return oneOf(scholars);
            case "c": return chance(97) ? random.nextInt(1 << cases) : between(-1, 256);
            case "t": return oneOf(4);
            default:
                String[] ends = word.split(":");
                return between(Integer.parseInt(ends[0]), Integer.parseInt(ends[1]));
        }
    }

    private int oneOf(int many) {
        return many > 0 && chance(95) ? random.nextInt(many) : between(-1, many);
    }

    private void countAgain(String name) throws ReflectiveOperationException {
        if (name.equals("court") || name.equals("undo") || name.equals("think")) {
            beds = model.told(0);
            cases = model.told(1);
            claims = model.told(2);
            scholars = model.told(3);
            call("told", 3);
        }
        if (name.equals("live")) {
            for (int what = 0; what < 5; what++) {
                call("lived", what);
            }
        }
    }

    private void text(String name, String text) throws ReflectiveOperationException {
        // What earlier calls left on the tape would come ahead of the text: a fault empties it.
        call("feed", 0, 0, 0, 0, 0);
        call("terms", 1);
        byte[] bytes = text.getBytes(StandardCharsets.ISO_8859_1);
        for (int at = 0; at < bytes.length && at < 900; at += 20) {
            Object[] ints = new Object[5];
            for (int i = 0; i < 5; i++) {
                int v = 0;
                for (int j = 0; j < 4; j++) {
                    int place = at + 4 * i + j;
                    v = v << 8 | (place < bytes.length ? bytes[place] & 255 : 0);
                }
                ints[i] = v;
            }
            call("feed", ints);
        }
        call(name, Math.min(900, bytes.length));
        call("fault", 0);
        call("fault", 1);
        countAgain(name);
    }

    private static String named(char sort, int i) {
        return sort + String.valueOf((char) ('a' + i));
    }

    private String courtText() {
        List<String> t = new ArrayList<>();
        int beds = between(chance(90) ? 1 : 0, chance(3) ? 7 : 6);
        int cases = between(chance(90) ? 2 : 0, chance(3) ? 9 : 8);
        int claims = beds == 0 ? 0 : between(chance(90) ? 3 : 0, chance(3) ? 8 : 7);
        int scholars = beds == 0 ? 0 : between(chance(90) ? 2 : 0, chance(3) ? 5 : 4);
        if (chance(50)) {
            t.add("odds " + between(0, 16) + ";");
        }
        for (int i = 0; i < beds; i++) {
            t.add("bed" + (chance(70) ? " crocus " + between(0, chance(50) ? 9 : 99) : "")
                + (chance(50) ? " sham " + between(0, chance(50) ? 5 : 99) : "") + ";");
        }
        for (int i = 0; i < cases; i++) {
            t.add("case " + named('c', i) + " weight " + between(1, chance(50) ? 3 : 20) + ";");
        }
        for (int i = 0; i < claims; i++) {
            StringBuilder of = new StringBuilder();
            for (int j = 0; j < cases; j++) {
                of.append(chance(45) ? " " + named('c', j) : "");
            }
            t.add("claim " + named('k', i) + " at " + between(0, beds - 1)
                + (chance(50) ? " cost " + between(1, 9) : "") + " of" + of + ";");
        }
        for (int i = 0; i < scholars; i++) {
            t.add("scholar " + named('s', i) + " at " + between(0, beds - 1)
                + (chance(40) ? " gold " + between(0, 999) : "") + ";");
        }
        return String.join(chance(20) ? "\n" : "", t);
    }

    private String stepText(int depth) {
        String scholar = named('s', Math.max(0, chance(99) ? between(0, scholars - 1) : scholars));
        String claim = named('k', Math.max(0, chance(99) ? between(0, claims - 1) : claims));
        int bed = Math.max(0, chance(99) ? between(0, beds - 1) : beds);
        switch (between(0, depth < (chance(95) ? 3 : 4) ? 9 : 5)) {
            case 0: return "make " + claim + ";";
            case 1: return "walk " + scholar + " " + bed + ";";
            case 2: return "pick " + scholar + ";";
            case 3: return "night " + between(chance(98) ? 1 : 0, chance(95) ? 5 : 41) + ";";
            case 4: return chance(90) ? "any;" : "stop;";
            case 5: return chance(60) ? "any;" : "forget;";
            case 6: return "when made " + claim + ";" + stepsText(depth + 1) + "end;";
            case 7: return "when crocus " + bed + sign() + between(0, 12) + ";" + stepsText(depth + 1) + "end;";
            case 8: return "when gold " + scholar + sign() + between(0, 40) + ";" + stepsText(depth + 1) + "end;";
            default: return "loop " + between(1, chance(80) ? 6 : 99) + ";" + stepsText(depth + 1) + "end;";
        }
    }

    private String sign() {
        return List.of("<", ">", "=").get(random.nextInt(3));
    }

    private String stepsText(int depth) {
        StringBuilder t = new StringBuilder();
        for (int i = between(0, depth == 0 ? 9 : 4); i > 0; i--) {
            t.append(stepText(depth));
        }
        return t.toString();
    }

    private String marred(String text) {
        StringBuilder t = new StringBuilder(text);
        for (int i = between(1, 2); i > 0; i--) {
            int at = between(0, t.length());
            switch (between(0, 5)) {
                case 0: t.insert(at, "; <>=azbq019\n\t\u00e9".charAt(random.nextInt(14))); break;
                case 1: t.delete(at, Math.min(t.length(), at + between(1, 4))); break;
                case 2: t.insert(at, List.of(" bed ", " end ", " of ", " odds 3;", " 7 ", " ca ", " ka ", " sa ").get(random.nextInt(8))); break;
                case 3: t.setLength(at); break;
                case 4: t.insert(at, between(0, 99999)); break;
                default: t.insert(at, t.substring(at, Math.min(t.length(), at + between(1, 20)))); break;
            }
        }
        return t.toString();
    }

    private void run() throws ReflectiveOperationException {
        x = new SaffronCourt();
        model = new Model();
        said.clear();
        text("court", courtText());
        text("terms", stepsText(0));
        while (said.size() < CALLS - 60) {
            if (chance(1)) {
                text("court", chance(50) ? marred(courtText()) : courtText());
            } else if (chance(2)) {
                text("terms", chance(25) ? marred(stepsText(0)) : stepsText(0));
            } else if (chance(1)) {
                call(chance(50) ? "court" : "terms", between(-1, 40));
                countAgain("court");
            } else {
                drawnCall();
            }
        }
    }

    public static void main(String[] args) throws ReflectiveOperationException {
        ModelTests tests = new ModelTests(2026);
        for (int i = 0; i < RUNS; i++) {
            tests.run();
        }
        Check.end();
    }
}
