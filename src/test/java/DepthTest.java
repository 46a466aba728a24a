import java.io.IOException;
import java.io.PrintWriter;
import java.io.StringWriter;
import java.nio.file.Files;
import java.nio.file.Path;
import java.util.ArrayList;
import java.util.List;
import java.util.Map;
import java.util.Optional;
import java.util.Set;
import java.util.TreeMap;
import java.util.TreeSet;
import java.util.regex.Matcher;
import java.util.regex.Pattern;
import java.util.spi.ToolProvider;

/** LANGUAGE.md, rules 8 and 11: calls go at most eight deep and none comes back to itself; methods stay short. */
public final class DepthTest {
    private static final int MOST_CALLS = 8;
    private static final int MOST_LINES = 60;
    private static final Pattern METHOD = Pattern.compile("^  [\\w\\s.$\\[\\]]*?([\\w$]+)\\(.*\\).*;$");
    private static final Pattern CALL = Pattern.compile("invoke.*// Method (?:(ImageYard[\\w$]*)\\.)?(\"<init>\"|\\w+):");

    /** A head may go on in a second line. */
    private static final Pattern HEAD = Pattern.compile("( {4}(?: {4})?)[a-zA-Z][\\w\\[\\] ]*\\(.*[^;]");

    private final Map<String, Set<String>> called = new TreeMap<>();
    private final Map<String, Integer> depths = new TreeMap<>();
    private final Check check = new Check();

    public static void main(String[] args) throws IOException {
        DepthTest test = new DepthTest();
        Optional<ToolProvider> javap = ToolProvider.findFirst("javap");
        if (javap.isPresent()) {
            test.calls(javap.get());
        }
        test.lengths(Files.readString(Path.of("src/main/java/ImageYard.java")).split("\n"));
        test.check.end();
    }

    private void calls(ToolProvider javap) {
        read(javap, ImageYard.class.getName());
        for (Class<?> inside : ImageYard.class.getDeclaredClasses()) {
            read(javap, inside.getName());
        }
        check.holds("the calls of deliver are found", called.getOrDefault("ImageYard.deliver", Set.of())
                .contains("ImageYard$Transfer.arrive"));
        for (String method : called.keySet()) {
            int depth = depth(method, new ArrayList<>());
            check.holds(method + " goes at most " + MOST_CALLS + " deep (it goes " + depth + ")", depth <= MOST_CALLS);
        }
    }

    private void read(ToolProvider javap, String name) {
        StringWriter out = new StringWriter();
        PrintWriter writer = new PrintWriter(out);
        javap.run(writer, writer, "-c", "-p", "-cp", System.getProperty("java.class.path"), name);
        String method = "";
        for (String line : out.toString().split("\n")) {
            Matcher head = METHOD.matcher(line);
            Matcher call = CALL.matcher(line);
            if (head.matches()) {
                method = name + "." + (head.group(1).equals(name) ? "\"<init>\"" : head.group(1));
                called.putIfAbsent(method, new TreeSet<>());
            } else if (call.find() && called.containsKey(method)) {
                called.get(method).add((call.group(1) == null ? name : call.group(1)) + "." + call.group(2));
            }
        }
    }

    /** How many calls of the class's own methods stand open at most, with this one. */
    private int depth(String method, List<String> open) {
        if (open.contains(method)) {
            check.holds("no call comes back to itself: " + open + " " + method, false);
            return 0;
        }
        if (!depths.containsKey(method)) {
            open.add(method);
            int deepest = 0;
            for (String next : called.getOrDefault(method, Set.of())) {
                deepest = Math.max(deepest, depth(next, open));
            }
            open.remove(method);
            depths.put(method, deepest + 1);
        }
        return depths.get(method);
    }

    private void lengths(String[] lines) {
        int methods = 0;
        for (int i = 0; i < lines.length; i++) {
            Matcher head = HEAD.matcher(lines[i]);
            if (head.matches() && !lines[i].contains(" class ")) {
                methods++;
                int end = i;
                while (end < lines.length - 1 && !lines[end].equals(head.group(1) + "}")) {
                    end++;
                }
                check.holds("at most " + MOST_LINES + " lines: " + lines[i].trim() + " has " + (end - i + 1),
                        end - i < MOST_LINES);
            }
        }
        check.holds("the methods are found (" + methods + ")", methods > 100);
    }
}
