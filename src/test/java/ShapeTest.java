import java.io.File;
import java.io.PrintWriter;
import java.io.StringWriter;
import java.util.ArrayList;
import java.util.Arrays;
import java.util.HashSet;
import java.util.List;
import java.util.Map;
import java.util.Set;
import java.util.TreeMap;
import java.util.TreeSet;
import java.util.regex.Matcher;
import java.util.regex.Pattern;
import java.util.spi.ToolProvider;

/** What of LANGUAGE.md can be seen in the compiled class: what it calls, how deep, what it makes, what it keeps. */
public final class ShapeTest {
    private static final int MOST_DEEP = 8;
    private static final int MOST_FIELDS = 20;
    private static final int MOST_CLASSES = 13;
    private static final Set<String> GUARDED_BY_DEPTH = Set.of("Seeker.isFoundBehind", "Seeker.cellsFrom", "Guess.findFrom");
    private static final Pattern LIBRARY = Pattern.compile("java/lang/(Object\\.<init>|System\\.arraycopy"
        + "|String\\.(length|charAt|isEmpty|equals|indexOf|substring|toCharArray)"
        + "|StringBuilder\\.(<init>|append|charAt|setCharAt|setLength|deleteCharAt|reverse|length|toString)"
        + "|(Integer|Long|Math)\\.(compare|max|min|abs|bitCount|floorDiv|floorMod))"
        + "|java/util/Arrays\\.(copyOf|copyOfRange|fill)|\\[[IJZ]\\.clone");
    private static final Pattern CLASS = Pattern.compile("^(?:[a-z]+ )*class (\\S+) .*\\{$|^(?:[a-z]+ )*class (\\S+)\\{?$");
    private static final Pattern METHOD = Pattern.compile("^  \\S.*?([\\w$]+)\\(.*\\);$");
    private static final Pattern FIELD = Pattern.compile("^  \\S[^(){]*;$");
    private static final Pattern CALL = Pattern.compile("invoke\\w+ .*// (?:Interface)?Method (\\S+?):");

    private static final Map<String, Set<String>> calls = new TreeMap<>();
    private static final Map<String, Integer> fields = new TreeMap<>();
    private static int wrong = 0;

    private static void refuse(String why) {
        wrong++;
        System.out.println(why);
    }

    public static void main(String[] args) {
        read(listing());
        if (calls.size() < 100) refuse("only " + calls.size() + " methods were seen");
        if (fields.size() > MOST_CLASSES) refuse(fields.size() + " classes");
        for (String name : fields.keySet()) {
            if (fields.get(name) > MOST_FIELDS) refuse(name + " has " + fields.get(name) + " fields");
        }
        int deepest = 0;
        for (String method : calls.keySet()) deepest = Math.max(deepest, depthOf(method, new ArrayList<>()));
        System.out.println(calls.size() + " methods in " + fields.size() + " classes, calls " + deepest + " deep, " + wrong + " against the rules");
        if (wrong != 0) System.exit(1);
    }

    private static List<String> listing() {
        File[] files = new File(System.getProperty("java.class.path")).listFiles((d, n) -> n.matches("LateMirror(\\$\\w+)?\\.class"));
        List<String> options = new ArrayList<>(List.of("-c", "-p"));
        for (File file : files == null ? new File[0] : files) options.add(file.getPath());
        StringWriter out = new StringWriter();
        ToolProvider javap = ToolProvider.findFirst("javap").orElseThrow();
        javap.run(new PrintWriter(out), new PrintWriter(System.err), options.toArray(new String[0]));
        return Arrays.asList(out.toString().split("\\R"));
    }

    private static void read(List<String> listing) {
        String in = "";
        String method = "";
        for (String line : listing) {
            Matcher head = CLASS.matcher(line);
            Matcher start = METHOD.matcher(line);
            if (head.matches()) {
                in = shortName(head.group(1) != null ? head.group(1) : head.group(2));
                method = "";
                fields.put(in, 0);
            } else if (start.matches()) {
                boolean constructor = line.matches(".*\\b" + (in.equals("LateMirror") ? "" : "LateMirror\\$") + in + "\\(.*");
                method = in + "." + (constructor ? "<init>" : start.group(1));
                calls.put(method, new TreeSet<>());
            } else if (line.equals("  static {};")) {
                method = in + ".<clinit>";
                calls.put(method, new TreeSet<>());
            } else if (FIELD.matcher(line).matches()) {
                if (!line.contains(" static ")) fields.merge(in, 1, Integer::sum);
            } else {
                readCode(in, method, line);
            }
        }
    }

    private static void readCode(String in, String method, String line) {
        if (line.matches("\\s+\\d+: (athrow|monitorenter|monitorexit|invokedynamic)\\b.*") || line.contains("Exception table:")) {
            refuse(method + ": " + line.trim());
        }
        // Rows are made in constructors and used again, so that all calls of a run have room.
        if (line.matches("\\s+\\d+: (new|newarray|anewarray|multianewarray)\\b.*") && !method.endsWith("init>")) {
            refuse(method + " makes: " + line.trim());
        }
        Matcher call = CALL.matcher(line);
        if (!call.find()) return;
        String target = call.group(1).replace("\"", "");
        if (!target.contains(".")) {
            calls.get(method).add(in + "." + target);
        } else if (target.startsWith("LateMirror")) {
            calls.get(method).add(shortName(target));
        } else if (!LIBRARY.matcher(target).matches()) {
            refuse(method + " calls " + target);
        }
    }

    private static String shortName(String name) {
        return name.replace("LateMirror$", "");
    }

    /** How many calls stand open at most, a method that calls itself counted once. */
    private static int depthOf(String method, List<String> open) {
        open.add(method);
        int most = 0;
        for (String target : calls.getOrDefault(method, new HashSet<>())) {
            if (!open.contains(target)) {
                most = Math.max(most, depthOf(target, open));
            } else if (!target.equals(method) || !GUARDED_BY_DEPTH.contains(target)) {
                refuse(method + " calls " + target + " again");
            }
        }
        if (open.size() > MOST_DEEP) refuse("too deep: " + open);
        open.remove(open.size() - 1);
        return most + 1;
    }
}
