import java.io.PrintWriter;
import java.io.StringWriter;
import java.nio.file.Path;
import java.util.ArrayList;
import java.util.HashMap;
import java.util.LinkedHashMap;
import java.util.LinkedHashSet;
import java.util.List;
import java.util.Map;
import java.util.Set;
import java.util.regex.Matcher;
import java.util.regex.Pattern;
import java.util.spi.ToolProvider;

/** What of LANGUAGE.md can be seen in the compiled class: what it calls (rules 4 and 6), and how deep (rules 8 and 11). */
public final class BytecodeTest {
    private static final int DEEPEST = 8;
    private static final Set<String> LIBRARY = Set.of("java/lang/Object.\"<init>\"", "java/lang/Math.max", "java/lang/Math.min",
        "java/lang/Math.abs", "java/lang/Math.floorMod", "java/lang/System.arraycopy", "java/util/Arrays.fill",
        "java/lang/String.length", "java/lang/String.charAt");
    private static final Pattern CLASS = Pattern.compile("^(?:\\w+ )*class ([\\w$]+)");
    private static final Pattern METHOD = Pattern.compile("^  (?:\\S+ )*([\\w$]+)\\(.*\\);$");
    private static final Pattern DESCRIPTOR = Pattern.compile("^    descriptor: (\\(.*)$");
    private static final Pattern CALL = Pattern.compile("// (?:Interface)?Method (?:([\\w/$]+)\\.)?(\"<init>\"|[\\w$]+):(\\(.*)$");
    private static final Pattern LIBRARY_FIELD = Pattern.compile("// Field java/\\S+");

    private final Check c = new Check("LANGUAGE.md");
    private final Map<String, Set<String>> calls = new LinkedHashMap<>();
    private final Map<String, Integer> depths = new HashMap<>();
    private final List<String> open = new ArrayList<>();

    public static void main(String[] args) throws Exception {
        BytecodeTest t = new BytecodeTest();
        t.read(disassembled());
        t.c.due("methods were found", t.calls.size() > 100, true);
        for (String method : t.calls.keySet()) {
            int depth = t.depthOf(method);
            t.c.due("rule 11: " + method + " goes " + depth + " deep", depth <= DEEPEST, true);
        }
        Check.end();
    }

    private static String disassembled() throws Exception {
        Path home = Path.of(SharedSurplus.class.getProtectionDomain().getCodeSource().getLocation().toURI());
        List<String> arguments = new ArrayList<>(List.of("-c", "-p", "-s", "-cp", home.toString(), "SharedSurplus"));
        for (Class<?> inside : SharedSurplus.class.getDeclaredClasses()) {
            arguments.add(inside.getName());
        }
        StringWriter text = new StringWriter();
        PrintWriter out = new PrintWriter(text);
        ToolProvider javap = ToolProvider.findFirst("javap").orElseThrow();
        if (javap.run(out, out, arguments.toArray(new String[0])) != 0) {
            throw new IllegalStateException(text.toString());
        }
        return text.toString();
    }

    private void read(String text) {
        String owner = "";
        String name = "";
        Set<String> called = new LinkedHashSet<>();
        for (String line : text.split("\\R")) {
            Matcher head = CLASS.matcher(line);
            Matcher method = METHOD.matcher(line);
            Matcher descriptor = DESCRIPTOR.matcher(line);
            Matcher call = CALL.matcher(line);
            if (head.find()) {
                owner = head.group(1);
            } else if (method.find()) {
                name = method.group(1).equals(owner) ? "\"<init>\"" : method.group(1);
            } else if (descriptor.find()) {
                called = new LinkedHashSet<>();
                calls.put(owner + "." + name + ":" + descriptor.group(1), called);
            } else if (call.find()) {
                String whose = call.group(1) == null ? owner : call.group(1);
                called.add(whose + "." + call.group(2) + ":" + call.group(3));
            }
            refuse("rule 6", owner + "." + name, line, line.contains("athrow") || line.contains("Exception table"));
            refuse("rules 2 and 10", owner + "." + name, line, line.contains("invokedynamic"));
            refuse("rule 4", owner + "." + name, line, LIBRARY_FIELD.matcher(line).find());
        }
    }

    private void refuse(String rule, String method, String line, boolean found) {
        if (found) {
            c.due(rule + ": " + method + " has " + line.trim(), 1, 0);
        }
    }

    /** How many calls stand open at most, the method's own and the library's among them. */
    private int depthOf(String method) {
        if (!calls.containsKey(method)) {
            String bare = method.substring(0, method.indexOf(':'));
            c.due("rule 4: the library's " + bare, LIBRARY.contains(bare), true);
            return 1;
        }
        Integer known = depths.get(method);
        if (known != null) {
            return known;
        }
        if (open.contains(method)) {
            c.due("rule 8: " + method + " calls itself, and carries no depth", 1, 0);
            return 1;
        }
        open.add(method);
        int deepest = 0;
        for (String called : calls.get(method)) {
            deepest = Math.max(deepest, depthOf(called));
        }
        open.remove(method);
        depths.put(method, deepest + 1);
        return deepest + 1;
    }
}
