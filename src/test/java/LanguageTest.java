import java.io.IOException;
import java.io.PrintWriter;
import java.io.StringWriter;
import java.lang.reflect.Method;
import java.lang.reflect.Modifier;
import java.nio.file.Files;
import java.nio.file.Path;
import java.util.ArrayList;
import java.util.HashSet;
import java.util.LinkedHashMap;
import java.util.List;
import java.util.Map;
import java.util.Set;
import java.util.TreeSet;
import java.util.regex.Matcher;
import java.util.regex.Pattern;
import java.util.spi.ToolProvider;

/** Looks at what of LANGUAGE.md can be seen in the source, the compiled classes and the public face. */
public final class LanguageTest {
    private static final String SOURCE = "src/main/java/LostBets.java";
    private static final int DEEPEST_CALL = 8;
    private static final int LONGEST_METHOD = 60;
    private static final int MOST_CLASSES = 12;
    private static final int MOST_FIELDS = 20;

    private static final String FACE = "feed1 town0 personOf2 belief2 eventOf2 wagerOf2 person2 wishes2 believes3 fixes3 "
        + "proposes5 days1 back0 personIn3 beliefIn3 wedIn1 wedWhen1 happens2 bet2 takers3 wooers1 match1 fix1 preach1 "
        + "fair1 hedge2 uponWhat2 whatKind2 two3 sure4 shares2 saddest1 wished1 mean2 scorn1 left1 hope3 row1 judge0 "
        + "clear0 lots3 image0 restore0 count1";

    private static final Set<String> LIBRARY = Set.of("java/lang/Object.\"<init>\"", "java/lang/System.arraycopy",
        "java/util/Arrays.fill", "java/lang/Math.min", "java/lang/Math.max", "java/lang/Integer.bitCount");

    private final Check check = new Check("LanguageTest");
    /** By class and method: what it calls. */
    private final Map<String, Set<String>> calls = new LinkedHashMap<>();
    private final Map<String, String> superOf = new LinkedHashMap<>();

    public static void main(String[] args) throws IOException {
        LanguageTest test = new LanguageTest();
        test.source(Files.readString(Path.of(SOURCE)));
        test.growingRows(Files.readString(Path.of(SOURCE)));
        test.face();
        test.bytecode(disassembled());
        test.depth();
        test.room();
        test.check.end();
    }

    private void source(String text) {
        String code = text.replaceAll("(?s)/\\*.*?\\*/", "").replaceAll("//[^\n]*", "");
        String[] banned = {
            "throw", "throws", "try", "catch", "finally", "synchronized", "assert", "package", "default ->", "->", "::",
            "Exact", "equals", "hashCode", "toString", "float", "double", "System\\.(?!arraycopy)", "Random", "Thread",
            "static \\{", "protected",
        };
        for (String word : banned) {
            check.holds("no '" + word + "'", !Pattern.compile("(?<![A-Za-z])" + word + "(?![A-Za-z])").matcher(code).find());
        }
        for (char c : text.toCharArray()) check.holds("plain sign " + c, c == '\n' || c >= ' ' && c < 127);
        check.holds("few classes", Pattern.compile("\\bclass \\w+").matcher(code).results().count() <= MOST_CLASSES);
        Matcher methods = Pattern.compile("(?ms)^( {4}| {8})(?:public |private |static |final )*[\\w\\[\\]]+ (\\w+)\\([^)]*\\) \\{$(.*?)^\\1\\}$")
            .matcher(text);
        int seen = 0;
        while (methods.find()) {
            seen++;
            check.holds(methods.group(2) + " is short", methods.group(3).lines().count() <= LONGEST_METHOD);
        }
        check.holds("methods were seen", seen > 80);
    }

    /** Where a row of the class grows, its room is looked at before the place behind its last one is used. */
    private void growingRows(String text) {
        roomIsLookedAt(text, "told[inRow] = v;", "inRow >= MOST_IN_ROW");
        roomIsLookedAt(text, "text[size] = letter;", "return size >= MOST;");
        roomIsLookedAt(text, "Wager it = wagers[open];", "open < MOST_OPEN &&");
        roomIsLookedAt(text, "wish[people] = people;", "people >= MOST_PEOPLE");
    }

    private void roomIsLookedAt(String text, String grows, String looks) {
        check.holds("a row grows by '" + grows + "'", text.contains(grows));
        check.holds("its room is looked at by '" + looks + "'", text.contains(looks));
    }

    private void face() {
        Set<String> due = new TreeSet<>(List.of(FACE.split(" ")));
        Set<String> got = new TreeSet<>();
        for (Method m : LostBets.class.getDeclaredMethods()) {
            if (Modifier.isPrivate(m.getModifiers())) continue;
            check.holds(m.getName() + " is public and of the object", m.getModifiers() == Modifier.PUBLIC);
            got.add(m.getName() + m.getParameterCount());
            boolean isLong = m.getName().equals("sure") || m.getName().equals("mean");
            check.holds(m.getName() + " answers as told", m.getReturnType() == (isLong ? long.class : int.class));
        }
        check.holds("the face " + got, got.equals(due));
        check.holds("final", Modifier.isFinal(LostBets.class.getModifiers()));
        check.due("constructors", LostBets.class.getConstructors().length, 1);
        Set<String> names = new HashSet<>();
        for (String name : due) names.add(name.replaceAll("\\d", ""));
        List<Class<?>> all = new ArrayList<>(List.of(LostBets.class.getDeclaredClasses()));
        for (Class<?> inner : all) {
            check.holds(inner + " is static", Modifier.isStatic(inner.getModifiers()));
            for (Method m : inner.getDeclaredMethods()) {
                check.holds(inner + "." + m.getName() + " has a name of its own", !names.contains(m.getName()));
            }
        }
        all.add(LostBets.class);
        for (Class<?> each : all) {
            int fields = 0;
            for (var field : each.getDeclaredFields()) {
                if (Modifier.isStatic(field.getModifiers())) {
                    check.holds(field + " is a constant", Modifier.isFinal(field.getModifiers()) && !field.getType().isArray());
                } else {
                    fields++;
                }
                check.holds(field + " is private", Modifier.isPrivate(field.getModifiers()));
            }
            check.holds(each + " has few fields", fields <= MOST_FIELDS);
            for (Method m : each.getDeclaredMethods()) {
                check.holds(m + " takes few", m.getParameterCount() <= 7);
                if (each == LostBets.class && Modifier.isPrivate(m.getModifiers())) {
                    check.holds(m.getName() + " is no public name", !names.contains(m.getName()));
                }
            }
        }
    }

    private static String disassembled() throws IOException {
        String place = Path.of(LanguageTest.class.getProtectionDomain().getCodeSource().getLocation().getPath()).toString();
        List<String> args = new ArrayList<>(List.of("-c", "-p", "-cp", place, "LostBets"));
        for (Class<?> inner : LostBets.class.getDeclaredClasses()) args.add(inner.getName());
        StringWriter text = new StringWriter();
        PrintWriter out = new PrintWriter(text);
        int end = ToolProvider.findFirst("javap").orElseThrow().run(out, out, args.toArray(new String[0]));
        if (end != 0) throw new IOException("javap: " + text);
        return text.toString();
    }

    /** What is called, and that only constructors make anything. */
    private void bytecode(String text) {
        Pattern type = Pattern.compile("^(?:[a-z]+ )*class (\\S+?)(?: extends (\\S+))? \\{$");
        Pattern method = Pattern.compile("^ {2}(?:[a-z]+ )*(?:\\S+ )?([\\w$]+)\\(.*\\);$");
        Pattern call = Pattern.compile("invoke\\w+ .*// (?:Interface)?Method (\\S+):");
        String owner = "";
        String name = "";
        int made = 0;
        for (String line : text.split("\n")) {
            Matcher m = type.matcher(line);
            if (m.find()) {
                owner = m.group(1);
                if (m.group(2) != null) superOf.put(owner, m.group(2));
                continue;
            }
            m = method.matcher(line);
            if (m.find()) {
                name = m.group(1).equals(owner) ? "\"<init>\"" : m.group(1);
                calls.put(owner + "." + name, new TreeSet<>());
                continue;
            }
            m = call.matcher(line);
            if (m.find()) {
                String target = m.group(1).contains(".") ? m.group(1) : owner + "." + m.group(1);
                if (target.startsWith("LostBets")) calls.get(owner + "." + name).add(target);
                else check.holds("the library's " + target, LIBRARY.contains(target));
            }
            boolean makes = line.matches(".*: (new|newarray|anewarray|multianewarray|invokedynamic) .*");
            if (makes) made++;
            check.holds(owner + "." + name + " makes nothing", !makes || name.equals("\"<init>\""));
            check.holds(owner + "." + name + " throws nothing", !line.contains(": athrow") && !line.contains("Exception table"));
        }
        check.holds("something was seen to be made", made > 20);
    }

    /** How deep the calls of each public method go at most, a kind's own way told for each kind. */
    private void depth() {
        int deepest = 0;
        for (String from : calls.keySet()) {
            int depth = depthOf(from, 1);
            deepest = Math.max(deepest, depth);
            check.holds(from + " calls " + depth + " deep", depth <= DEEPEST_CALL);
        }
        check.holds("calls were seen", calls.size() > 120 && deepest > 4);
    }

    private int depthOf(String from, int depth) {
        if (depth > 20) return depth;
        int deepest = depth;
        for (String to : calls.getOrDefault(from, Set.of())) {
            for (String each : waysOf(to)) {
                // a kind that asks the one above it goes up, not back to itself
                boolean isUpward = from.endsWith(to.substring(to.indexOf('.')));
                if (isUpward && !each.equals(to)) continue;
                deepest = Math.max(deepest, depthOf(each, depth + 1));
            }
        }
        return deepest;
    }

    /** The method that is named, and those of the classes under its own that may stand for it. */
    private Set<String> waysOf(String method) {
        int dot = method.indexOf('.');
        String name = method.substring(dot);
        Set<String> ways = new TreeSet<>(Set.of(method));
        for (String each : superOf.keySet()) {
            String above = each;
            while (above != null && !above.equals(method.substring(0, dot))) above = superOf.get(above);
            if (above != null && !name.equals(".\"<init>\"")) ways.add(each + name);
        }
        ways.removeIf(way -> !calls.containsKey(way));
        return ways;
    }

    /** 512 dear calls of an object make next to nothing. */
    private void room() {
        var threads = (com.sun.management.ThreadMXBean) java.lang.management.ManagementFactory.getThreadMXBean();
        long most = 0;
        for (int round = 0; round < 3; round++) {
            LostBets x = new LostBets();
            for (int p = 0; p < 7; p++) x.person(p % 6, 2 + p);
            long before = threads.getCurrentThreadAllocatedBytes();
            for (int i = 0; i < 50; i++) {
                x.match(0);
                x.fix(30);
                x.preach(i % 5);
                x.believes(0, 1, 3);
                x.hedge(50, 30);
                x.lots(20, i, 0);
                x.image();
                x.restore();
                x.feed('d');
                x.town();
            }
            most = threads.getCurrentThreadAllocatedBytes() - before;
        }
        check.holds(most + " bytes are few", most < 100_000);
    }
}
