import java.io.ByteArrayOutputStream;
import java.io.File;
import java.io.PrintStream;
import java.util.ArrayList;
import java.util.HashMap;
import java.util.List;
import java.util.Map;
import java.util.Set;
import java.util.TreeSet;
import java.util.regex.Matcher;
import java.util.regex.Pattern;
import java.util.spi.ToolProvider;

/** LANGUAGE.md as the compiled classes show it: which calls there are, how deep they go, that none comes back to itself. */
public final class CallsTest {
    private static final Pattern CLASS = Pattern.compile("(?:\\w+ )*class ([\\w$]+).*");
    private static final Pattern METHOD = Pattern.compile("  (?:[\\w$.\\[\\]]+ )*([\\w$]+)\\(.*\\)(?: throws .*)?;");
    private static final Pattern CALL = Pattern.compile(".*(invoke\\w+) .*// \\w*Method (?:([\\w$/]+)\\.)?\"?([\\w$<>]+)\"?:.*");
    private static final Set<String> LIBRARY = Set.of("java/lang/Object.<init>", "java/lang/Math.abs", "java/lang/Math.max", "java/lang/Math.min",
        "java/lang/Math.floorDiv", "java/lang/Math.floorMod", "java/lang/Long.compare", "java/lang/String.length", "java/lang/String.charAt",
        "java/lang/System.arraycopy", "java/util/NoSuchElementException.<init>", "java/lang/IllegalStateException.<init>",
        "java/lang/IllegalArgumentException.<init>", "java/lang/IndexOutOfBoundsException.<init>", "java/lang/ArithmeticException.<init>");

    private static final Map<String, Set<String>> CALLS = new HashMap<>();
    private static final Map<String, Integer> DEPTHS = new HashMap<>();
    private static int wrong = 0;

    private CallsTest() {
    }

    private static void need(boolean holds, String what) {
        if (!holds) {
            wrong++;
            System.out.println(what);
        }
    }

    public static void main(String[] args) {
        ToolProvider javap = ToolProvider.findFirst("javap").orElse(null);
        if (javap == null) {
            System.out.println("no javap here: the calls are not looked at");
            return;
        }
        for (String line : listing(javap).split("\n")) {
            take(line.stripTrailing());
        }
        need(CALLS.size() > 100, "only " + CALLS.size() + " methods were found");
        for (String method : new TreeSet<>(CALLS.keySet())) {
            int depth = depth(method, new ArrayList<>());
            need(depth <= 8, "calls go " + depth + " deep from " + method);
        }
        System.out.println(wrong == 0 ? CALLS.size() + " methods call as they may" : wrong + " faults");
        if (wrong != 0) {
            System.exit(1);
        }
    }

    private static String listing(ToolProvider javap) {
        File folder = new File(Tuninghouse.class.getProtectionDomain().getCodeSource().getLocation().getPath());
        List<String> words = new ArrayList<>(List.of("-p", "-c"));
        for (File f : folder.listFiles()) {
            if (f.getName().matches("Tuninghouse(\\$\\w+)?\\.class")) {
                words.add(f.getPath());
            }
        }
        ByteArrayOutputStream out = new ByteArrayOutputStream();
        javap.run(new PrintStream(out), System.err, words.toArray(new String[0]));
        return out.toString();
    }

    private static String inClass = "";
    private static String inMethod = "";

    private static void take(String line) {
        Matcher m = CLASS.matcher(line);
        if (m.matches()) {
            inClass = m.group(1);
        }
        m = METHOD.matcher(line);
        if (m.matches()) {
            inMethod = inClass + "." + (m.group(1).equals(inClass) ? "<init>" : m.group(1));
            need(!CALLS.containsKey(inMethod), "two methods bear one name: " + inMethod);
            CALLS.put(inMethod, new TreeSet<>());
        }
        m = CALL.matcher(line);
        if (m.matches() && !m.group(3).equals("clone")) {
            String called = (m.group(2) == null ? inClass : m.group(2)) + "." + m.group(3);
            CALLS.get(inMethod).add(called);
            need(called.startsWith("Tuninghouse") || LIBRARY.contains(called), inMethod + " calls " + called);
        }
        need(!line.contains("invokedynamic") && !line.contains("Exception table"), inMethod + ": " + line.trim());
        need(!(inMethod.endsWith("<init>") && line.contains(" athrow")), inMethod + " throws");
    }

    /** How many calls stand open at most, this one and those into the library among them. */
    private static int depth(String method, List<String> open) {
        if (open.contains(method)) {
            need(false, method + " comes back to itself");
            return 1;
        }
        Integer known = DEPTHS.get(method);
        if (known != null) {
            return known;
        }
        open.add(method);
        int most = 0;
        for (String called : CALLS.getOrDefault(method, Set.of())) {
            most = Math.max(most, called.equals("java/lang/Object.<init>") ? 0 : depth(called, open));
        }
        open.remove(method);
        DEPTHS.put(method, most + 1);
        return most + 1;
    }
}
