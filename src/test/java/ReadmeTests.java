import java.io.IOException;
import java.lang.reflect.Method;
import java.nio.file.Files;
import java.nio.file.Path;
import java.util.HashMap;
import java.util.Map;
import java.util.regex.Matcher;
import java.util.regex.Pattern;

/** Makes the calls that README.md tells, in their order, and holds the answers to what stands behind them. */
public final class ReadmeTests {
    private static final Path README = Path.of("README.md");
    private static final Pattern CALL = Pattern.compile("(?m)^x\\.(\\w+)\\((.*)\\); *// (-?\\d+|true|false)\\b.*$");
    private static final Pattern ROW = Pattern.compile("(?m)^x\\..*$");
    private static final Pattern TEXT = Pattern.compile("(?m)^String (\\w+) = ([^;]*(?:\"[^\"]*\"[^;]*)*);$");
    private static final Pattern QUOTED = Pattern.compile("\"([^\"]*)\"");
    private static final Pattern FED = Pattern.compile("feed\\(x, (.*)\\)");

    private final SaffronCourt x = new SaffronCourt();
    private final Map<String, Method> calls = new HashMap<>();
    private final Map<String, String> texts = new HashMap<>();

    private ReadmeTests(String page) {
        for (Method m : SaffronCourt.class.getDeclaredMethods()) {
            calls.put(m.getName(), m);
        }
        Matcher m = TEXT.matcher(page);
        while (m.find()) {
            texts.put(m.group(1), quoted(m.group(2)));
        }
    }

    private static String quoted(String code) {
        StringBuilder text = new StringBuilder();
        Matcher m = QUOTED.matcher(code);
        while (m.find()) {
            text.append(m.group(1));
        }
        return text.toString();
    }

    private Object[] argumentsOf(Method call, String told) {
        Matcher fed = FED.matcher(told);
        if (fed.matches()) {
            String what = fed.group(1);
            return new Object[] {Check.feed(x, texts.getOrDefault(what, quoted(what)))};
        }
        Class<?>[] types = call.getParameterTypes();
        String[] words = told.isEmpty() ? new String[0] : told.split(", ");
        Object[] arguments = new Object[words.length];
        for (int i = 0; i < words.length; i++) {
            arguments[i] = types[i] == long.class ? (Object) Long.valueOf(words[i]) : Integer.valueOf(words[i]);
        }
        return arguments;
    }

    private void holdTo(String page) throws ReflectiveOperationException {
        int rows = 0;
        Matcher m = CALL.matcher(page);
        while (m.find()) {
            rows++;
            Method call = calls.get(m.group(1));
            Object answer = call.invoke(x, argumentsOf(call, m.group(2)));
            Check.due(m.group() + " answered " + answer, answer.toString().equals(m.group(3)), true);
        }
        Check.due("each row of the page is a call with its answer", ROW.matcher(page).results().count(), rows);
        Check.due("there are rows", rows > 20, true);
    }

    private void namesEachCall(String page) {
        for (String name : calls.keySet()) {
            if (java.lang.reflect.Modifier.isPublic(calls.get(name).getModifiers())) {
                Check.due("the page names " + name, page.contains("`" + name + "`"), true);
            }
        }
    }

    public static void main(String[] args) throws IOException, ReflectiveOperationException {
        String page = Files.readString(README);
        ReadmeTests tests = new ReadmeTests(page);
        tests.holdTo(page);
        tests.namesEachCall(page);
        Check.end();
    }
}
