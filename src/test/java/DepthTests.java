import java.io.PrintWriter;
import java.io.StringWriter;
import java.util.ArrayList;
import java.util.HashMap;
import java.util.HashSet;
import java.util.LinkedHashSet;
import java.util.List;
import java.util.Map;
import java.util.Set;
import java.util.regex.Matcher;
import java.util.regex.Pattern;
import java.util.spi.ToolProvider;

/** LANGUAGE.md, rules 8 and 11: no call goes deeper than eight, counted with the library's, and none comes back to itself. */
public final class DepthTests {
    private static final int MOST_DEEP = 8;
    private static final Pattern METHOD = Pattern.compile("^  (?!Compiled)\\S.*?([\\w$]+)\\((.*)\\);$");
    private static final Pattern CALL = Pattern.compile("// (?:Interface)?Method (?:([\\w/$]+)\\.)?(\"<init>\"|\\w+):\\(");

    private final Map<String, Set<String>> calledBy = new HashMap<>();
    private final Map<String, Integer> depths = new HashMap<>();
    private final Set<String> open = new HashSet<>();
    private final ToolProvider javap;

    private DepthTests(ToolProvider javap) {
        this.javap = javap;
    }

    private String disassembled(String type) {
        StringWriter text = new StringWriter();
        PrintWriter out = new PrintWriter(text);
        String place = System.getProperty("java.class.path");
        javap.run(out, out, "-c", "-p", "-cp", place, type);
        return text.toString();
    }

    // Overloads of one name count as one method: none of them calls another of its name.
    private void read(String type) {
        String method = "";
        for (String line : disassembled(type).split("\n")) {
            Matcher m = METHOD.matcher(line);
            Matcher call = CALL.matcher(line);
            if (m.matches()) {
                boolean isConstructor = m.group(1).equals(type);
                method = type + "." + (isConstructor ? "<init>" : m.group(1));
                calledBy.putIfAbsent(method, new LinkedHashSet<>());
            } else if (call.find() && !method.isEmpty()) {
                String owner = call.group(1) == null ? type : call.group(1);
                calledBy.get(method).add(owner + "." + call.group(2).replace("\"", ""));
            }
        }
    }

    private int depthOf(String method) {
        if (depths.containsKey(method)) {
            return depths.get(method);
        }
        Check.due(method + " does not come back to itself", open.add(method), true);
        int depth = 0;
        for (String called : calledBy.getOrDefault(method, Set.of())) {
            if (!open.contains(called)) {
                depth = Math.max(depth, depthOf(called));
            } else {
                Check.due(method + " calls again " + called, true, false);
            }
        }
        open.remove(method);
        depths.put(method, depth + 1);
        return depth + 1;
    }

    public static void main(String[] args) {
        ToolProvider javap = ToolProvider.findFirst("javap").orElse(null);
        if (javap == null) {
            System.out.println("left out: this Java has no javap");
            return;
        }
        new DepthTests(javap).hold();
        Check.end();
    }

    private void hold() {
        List<String> types = new ArrayList<>(List.of("SaffronCourt"));
        for (Class<?> c : SaffronCourt.class.getDeclaredClasses()) {
            types.add(c.getName());
        }
        for (String type : types) {
            read(type);
        }
        int deepest = 0;
        for (String method : List.copyOf(calledBy.keySet())) {
            int depth = depthOf(method);
            deepest = Math.max(deepest, depth);
            Check.due(method + " goes " + depth + " deep", depth <= MOST_DEEP, true);
        }
        Check.due("methods are read", calledBy.size() > 100, true);
        Check.due("calls are read: " + deepest, deepest > 4, true);
    }
}
