import java.io.PrintWriter;
import java.io.StringWriter;
import java.util.ArrayList;
import java.util.Arrays;
import java.util.HashSet;
import java.util.LinkedHashMap;
import java.util.List;
import java.util.Map;
import java.util.Optional;
import java.util.Set;
import java.util.TreeMap;
import java.util.TreeSet;
import java.util.regex.Matcher;
import java.util.regex.Pattern;
import java.util.spi.ToolProvider;

/** Rules 4, 6 and 11 of LANGUAGE.md, by the compiled class: what is called of the library, and how deep calls go. */
public final class CallsTest {
    private static final Due DUE = new Due();
    private static final Pattern METHOD = Pattern.compile("^  (?! ).*?([\\w$]+)\\(.*\\).*;$");
    private static final Pattern CALLED = Pattern.compile("// Method (?:([\\w$/]+)\\.)?\"?([\\w<>]+|\\[I)\"?[.:](\\w*)");
    private static final Set<String> LIBRARY = new TreeSet<>(Arrays.asList("java/lang/Math.max", "java/lang/Math.min",
            "java/lang/String.charAt", "java/lang/String.length", "java/lang/System.arraycopy", "[I.clone",
            "java/util/NoSuchElementException.<init>"));
    /** By method (class.name) those that it calls. */
    private static final Map<String, Set<String>> CALLS = new TreeMap<>();
    private static final Set<String> OUTSIDE = new TreeSet<>();
    private static final Set<String> THROWING = new TreeSet<>();
    private static final Set<String> CATCHING = new TreeSet<>();

    public static void main(String[] args) {
        Optional<ToolProvider> javap = ToolProvider.findFirst("javap");
        if (javap.isEmpty()) {
            System.out.println("no javap in this JDK: nothing looked at");
            return;
        }
        List<String> names = new ArrayList<>();
        names.add("DeadPacks");
        for (Class<?> c : DeadPacks.class.getDeclaredClasses()) {
            names.add(c.getName());
        }
        for (String name : names) {
            read(javap.get(), name);
        }
        DUE.is("methods are seen", CALLS.size() > 100, true);
        for (String out : OUTSIDE) {
            DUE.is("rule 4 lists " + out, LIBRARY.contains(out), true);
        }
        DUE.is("rule 6: what throws is " + THROWING, THROWING.equals(new TreeSet<>(Arrays.asList("DeadPacks.about",
                "DeadPacks.fall", "DeadPacks.lean", "DeadPacks.row"))), true);
        DUE.is("rule 6: what catches is " + CATCHING, CATCHING.isEmpty(), true);
        for (String method : CALLS.keySet()) {
            List<String> chain = longest(method, new HashSet<>());
            DUE.is("rule 11: calls by " + chain, chain.size() <= 8, true);
        }
        DUE.finish();
    }

    private static void read(ToolProvider javap, String name) {
        StringWriter told = new StringWriter();
        javap.run(new PrintWriter(told), new PrintWriter(System.err), "-p", "-c", "-cp",
                System.getProperty("java.class.path"), name);
        String now = "";
        for (String line : told.toString().split("\\R")) {
            Matcher m = METHOD.matcher(line);
            if (m.matches()) {
                now = name + "." + (m.group(1).equals(name) ? "<init>" : m.group(1));
                CALLS.putIfAbsent(now, new TreeSet<>());
            }
            Matcher c = CALLED.matcher(line);
            if (c.find()) {
                note(now, c.group(1) == null ? name : c.group(1), c.group(2), c.group(3));
            }
            if (line.contains(": athrow")) {
                THROWING.add(now);
            }
            if (line.contains("Exception table:")) {
                CATCHING.add(now);
            }
        }
    }

    private static void note(String from, String owner, String method, String behind) {
        if (method.equals("[I")) {
            OUTSIDE.add("[I." + behind);
        } else if (owner.startsWith("DeadPacks")) {
            CALLS.get(from).add(owner + "." + method);
        } else if (!owner.equals("java/lang/Object")) {
            OUTSIDE.add(owner + "." + method);
        }
    }

    /** The longest way down that comes to no method twice. */
    private static List<String> longest(String method, Set<String> open) {
        Map<String, List<String>> ways = new LinkedHashMap<>();
        open.add(method);
        List<String> best = new ArrayList<>();
        for (String next : CALLS.getOrDefault(method, Set.of())) {
            if (!open.contains(next)) {
                ways.put(next, longest(next, open));
            }
        }
        for (List<String> way : ways.values()) {
            best = way.size() > best.size() ? way : best;
        }
        open.remove(method);
        List<String> all = new ArrayList<>(List.of(method));
        all.addAll(best);
        return all;
    }
}
