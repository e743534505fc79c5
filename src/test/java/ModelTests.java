import java.lang.reflect.Method;
import java.nio.charset.StandardCharsets;
import java.util.ArrayList;
import java.util.HashMap;
import java.util.List;
import java.util.Map;
import java.util.Random;

/** Holds the program against the Model by runs of calls drawn from fixed seeds. */
public final class ModelTests {
    private static final int RUNS = 1500;
    private static final int CALLS = 500;

    // Of each argument the least and the greatest that is drawn mostly.
    private static final String[] CALLED = {
        "tray -1 4 -1 4 -1 61", "write 0 3 0 20 -2 9", "write 0 3 0 20 -2 1", "read 0 3 -1 60", "pour -1 4 -1 20 -1 4 -1 20 -1 20",
        "told -1 11", "bed -1 6 -1 2", "weight -1 8", "claim -1 7 -1 4", "scholar -1 4 -1 2",
        "make 0 6", "make -1 7", "recant -1 7", "forget", "walk -1 4 -1 6", "pick -1 4", "night 0 6", "night 0 100",
        "weed -1 6", "teach -1 7 -1 8 0 1", "weigh -1 8 0 21", "think 0 255 0 5 0 10", "rule -1 17",
        "partOf -1 8", "couples", "parting -1 8 -1 8", "barren", "most -1 4", "first -1 4 -1 4",
        "fewest 0 255", "fewestSet 0 255", "deep 0 255", "askDeep 0 255", "dear 0 255", "askDear 0 255",
        "fewest 0 15", "fewestSet 0 15", "deep 0 15", "askDeep 0 15", "dear 0 15", "askDear 0 15",
        "fits 0 3 0 4", "likely 0 3 0 4", "oddsThat 0 3 0 4 0 7", "next 0 3 0 3", "fits -1 4 -1 21",
        "gather -1 4 -1 13", "brisk -1 4 -1 13", "game -1 5", "moveOf -1 5", "blind -1 6 -1 5 -1 5", "share -1 4",
        "copyBeds -1 4", "live 0 9999", "live -1 10000", "lived -1 5", "lived 0 4", "mean 0 9990 1 9", "mean 9970 10001 -1 21",
        "mark", "undo", "fault -1 2", "feed 0 9 0 9 0 9 0 9 0 9", "court -1 20", "terms -1 20"};

    private final Random random;
    private final Map<String, Method> real = new HashMap<>();
    private final Map<String, Method> modelled = new HashMap<>();
    private final List<String> said = new ArrayList<>();
    private SaffronCourt x;
    private Model model;

    private ModelTests(long seed) {
        random = new Random(seed);
        for (Method m : SaffronCourt.class.getDeclaredMethods()) {
            real.put(m.getName(), m);
        }
        for (Method m : Model.class.getDeclaredMethods()) {
            if (java.lang.reflect.Modifier.isPublic(m.getModifiers())) {
                modelled.put(m.getName(), m);
            }
        }
    }

    private int between(int low, int high) {
        return low + random.nextInt(high - low + 1);
    }

    private boolean chance(int percent) {
        return random.nextInt(100) < percent;
    }

    private static long number(Object o) {
        return o instanceof Boolean b ? (b ? 1 : 0) : ((Number) o).longValue();
    }

    private void call(String name, Object... args) throws ReflectiveOperationException {
        String row = name + java.util.Arrays.toString(args);
        said.add(row);
        long got = number(real.get(name).invoke(x, args));
        long want = number(modelled.get(name).invoke(model, args));
        Check.due(row, got, want);
        Check.due(row + " status", x.status(), model.status());
        Check.due(row + " top", x.top(), model.top());
        Check.due(row + " bottom", x.bottom(), model.bottom());
    }

    private void drawnCall() throws ReflectiveOperationException {
        String[] words = CALLED[random.nextInt(CALLED.length)].split(" ");
        Class<?>[] types = real.get(words[0]).getParameterTypes();
        Object[] args = new Object[types.length];
        for (int i = 0; i < types.length; i++) {
            int v = between(Integer.parseInt(words[1 + 2 * i]), Integer.parseInt(words[2 + 2 * i]));
            if (chance(1)) {
                v = chance(50) ? random.nextInt() : chance(50) ? Integer.MAX_VALUE : Integer.MIN_VALUE;
            }
            if (types[i] == boolean.class) {
                args[i] = (v & 1) == 1;
            } else if (types[i] == long.class) {
                args[i] = chance(10) ? random.nextLong() : (long) v;
            } else {
                args[i] = v;
            }
        }
        call(words[0], args);
    }

    private void text(String name, String text) throws ReflectiveOperationException {
        byte[] bytes = text.getBytes(StandardCharsets.ISO_8859_1);
        for (int at = 0; at < bytes.length && at < 900; at += 20) {
            Object[] ints = new Object[5];
            for (int i = 0; i < 5; i++) {
                int v = 0;
                for (int j = 0; j < 4; j++) {
                    int place = at + 4 * i + j;
                    v = v << 8 | (place < bytes.length ? bytes[place] & 255 : 0);
                }
                ints[i] = v;
            }
            call("feed", ints);
        }
        call(name, Math.min(900, bytes.length));
        call("fault", 0);
        call("fault", 1);
    }

    private static String named(char sort, int i) {
        return sort + String.valueOf((char) ('a' + i));
    }

    private String courtText() {
        List<String> t = new ArrayList<>();
        int beds = between(chance(90) ? 1 : 0, chance(3) ? 7 : 6);
        int cases = between(chance(90) ? 1 : 0, chance(3) ? 9 : 8);
        int claims = beds == 0 ? 0 : between(0, chance(3) ? 8 : 7);
        int scholars = beds == 0 ? 0 : between(chance(80) ? 1 : 0, chance(3) ? 5 : 4);
        if (chance(50)) {
            t.add("odds " + between(0, 16) + ";");
        }
        for (int i = 0; i < beds; i++) {
            t.add("bed" + (chance(70) ? " crocus " + between(0, chance(50) ? 9 : 99) : "")
                + (chance(50) ? " sham " + between(0, chance(50) ? 5 : 99) : "") + ";");
        }
        for (int i = 0; i < cases; i++) {
            t.add("case " + named('c', i) + " weight " + between(1, chance(50) ? 3 : 20) + ";");
        }
        for (int i = 0; i < claims; i++) {
            StringBuilder of = new StringBuilder();
            for (int j = 0; j < cases; j++) {
                of.append(chance(45) ? " " + named('c', j) : "");
            }
            t.add("claim " + named('k', i) + " at " + between(0, beds - 1)
                + (chance(50) ? " cost " + between(1, 9) : "") + " of" + of + ";");
        }
        for (int i = 0; i < scholars; i++) {
            t.add("scholar " + named('s', i) + " at " + between(0, beds - 1)
                + (chance(40) ? " gold " + between(0, 999) : "") + ";");
        }
        return String.join(chance(20) ? "\n" : "", t);
    }

    private String stepText(int depth) {
        String scholar = named('s', between(0, chance(95) ? 1 : 4));
        String claim = named('k', between(0, chance(95) ? 2 : 7));
        int bed = between(0, chance(95) ? 1 : 6);
        switch (between(0, depth < (chance(95) ? 3 : 4) ? 9 : 5)) {
            case 0: return "make " + claim + ";";
            case 1: return "walk " + scholar + " " + bed + ";";
            case 2: return "pick " + scholar + ";";
            case 3: return "night " + between(chance(98) ? 1 : 0, chance(95) ? 5 : 41) + ";";
            case 4: return chance(90) ? "any;" : "stop;";
            case 5: return chance(60) ? "any;" : "forget;";
            case 6: return "when made " + claim + ";" + stepsText(depth + 1) + "end;";
            case 7: return "when crocus " + bed + sign() + between(0, 12) + ";" + stepsText(depth + 1) + "end;";
            case 8: return "when gold " + scholar + sign() + between(0, 40) + ";" + stepsText(depth + 1) + "end;";
            default: return "loop " + between(1, chance(80) ? 6 : 99) + ";" + stepsText(depth + 1) + "end;";
        }
    }

    private String sign() {
        return List.of("<", ">", "=").get(random.nextInt(3));
    }

    private String stepsText(int depth) {
        StringBuilder t = new StringBuilder();
        for (int i = between(0, depth == 0 ? 9 : 4); i > 0; i--) {
            t.append(stepText(depth));
        }
        return t.toString();
    }

    private String marred(String text) {
        StringBuilder t = new StringBuilder(text);
        for (int i = between(1, 2); i > 0; i--) {
            int at = between(0, t.length());
            switch (between(0, 5)) {
                case 0: t.insert(at, "; <>=azbq019\n\t\u00e9".charAt(random.nextInt(14))); break;
                case 1: t.delete(at, Math.min(t.length(), at + between(1, 4))); break;
                case 2: t.insert(at, List.of(" bed ", " end ", " of ", " odds 3;", " 7 ", " ca ", " ka ", " sa ").get(random.nextInt(8))); break;
                case 3: t.setLength(at); break;
                case 4: t.insert(at, between(0, 99999)); break;
                default: t.insert(at, t.substring(at, Math.min(t.length(), at + between(1, 20)))); break;
            }
        }
        return t.toString();
    }

    private void run() throws ReflectiveOperationException {
        x = new SaffronCourt();
        model = new Model();
        said.clear();
        while (said.size() < CALLS - 60) {
            if (said.isEmpty() || chance(1)) {
                call("feed", 0, 0, 0, 0, 0);
                call("court", 0);
                String text = courtText();
                text("court", chance(25) ? marred(text) : text);
            } else if (chance(2)) {
                call("terms", 0);
                String text = stepsText(0);
                text("terms", chance(25) ? marred(text) : text);
            } else {
                drawnCall();
            }
        }
    }

    public static void main(String[] args) throws ReflectiveOperationException {
        ModelTests tests = new ModelTests(2026);
        for (int i = 0; i < RUNS; i++) {
            tests.run();
        }
        Check.end();
    }
}
