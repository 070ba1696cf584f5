import java.io.IOException;
import java.lang.reflect.Method;
import java.lang.reflect.Modifier;
import java.nio.file.Files;
import java.nio.file.Path;
import java.util.ArrayList;
import java.util.Arrays;
import java.util.List;
import java.util.Set;
import java.util.TreeSet;
import java.util.regex.MatchResult;
import java.util.regex.Matcher;
import java.util.regex.Pattern;
import java.util.spi.ToolProvider;
import java.util.stream.Collectors;
import java.util.stream.Stream;

/** Holds README.md to the class, the document and the files that it speaks of. */
public final class ReadmeTest {
    private static final Path README = Path.of("README.md");
    private static final Path TESTS = Path.of("src/test/java");
    private static final String USE = "How to use it";
    private static final String RUN = "How to run the tests";

    private final Check check = new Check("ReadmeTest");
    private final String text;

    private ReadmeTest() throws IOException {
        text = Files.exists(README) ? Files.readString(README) : "";
    }

    public static void main(String[] args) throws IOException, ReflectiveOperationException {
        ReadmeTest test = new ReadmeTest();
        test.check.holds("README.md lies at the project's root", !test.text.isEmpty());
        test.example();
        test.letters();
        test.compiling();
        test.calls();
        test.command();
        test.testsNamed();
        test.check.end();
    }

    /** What stands under a heading, its smaller headings too. */
    private String under(String heading) {
        Matcher m = Pattern.compile("(?ms)^## " + heading + "$(.*?)(?=^## |\\z)").matcher(text);
        boolean isThere = m.find();
        check.holds("there is '## " + heading + "'", isThere);
        return isThere ? m.group(1) : "";
    }

    private List<String> linesIn(String heading, String language) {
        Matcher m = Pattern.compile("(?s)```" + language + "\n(.*?)```").matcher(under(heading));
        boolean isThere = m.find();
        check.holds("there is " + language + " under '" + heading + "'", isThere);
        return isThere ? m.group(1).lines().toList() : List.of();
    }

    /** Each line of the example answers what it says behind "//". */
    private void example() throws ReflectiveOperationException {
        LostBets x = null;
        int calls = 0;
        for (String line : linesIn(USE, "java")) {
            if (line.equals("LostBets x = new LostBets();")) {
                x = new LostBets();
                continue;
            }
            Matcher m = Pattern.compile("x\\.(\\w+)\\(([-0-9, ]*)\\); +// (-?\\d+): \\S.*").matcher(line);
            boolean isCall = x != null && m.matches();
            check.holds("the line '" + line + "' is a call with its answer", isCall);
            if (!isCall) continue;
            check.due("the example's " + line, answer(x, m.group(1), m.group(2)), Long.parseLong(m.group(3)));
            calls++;
        }
        check.holds("the example has calls", calls > 5);
    }

    private static long answer(LostBets x, String name, String told) throws ReflectiveOperationException {
        Object[] values = Stream.of(told.split(", *")).filter(s -> !s.isEmpty()).map(Integer::valueOf).toArray();
        Class<?>[] types = new Class<?>[values.length];
        Arrays.fill(types, int.class);
        return ((Number) LostBets.class.getMethod(name, types).invoke(x, values)).longValue();
    }

    private void letters() {
        Matcher m = Pattern.compile("feed `([^`]+)` to `feed\\(\\)`.*?`town\\(\\)` then\\s+answers (\\d+)", Pattern.DOTALL)
            .matcher(under(USE));
        boolean isThere = m.find();
        check.holds("a town in letters is told", isThere);
        if (!isThere) return;
        LostBets x = new LostBets();
        for (char c : m.group(1).toCharArray()) x.feed(c);
        check.due("the town in letters", x.town(), Long.parseLong(m.group(2)));
    }

    /** The command that compiles does so with a program in which the example stands. */
    private void compiling() throws IOException {
        String line = linesIn(USE, "sh").stream().filter(l -> l.startsWith("javac ")).findFirst().orElse("");
        check.holds("javac compiles the class", line.equals("javac -d out src/main/java/LostBets.java Mine.java"));
        Path place = Files.createTempDirectory("readme");
        Path mine = place.resolve("Mine.java");
        String body = String.join("\n", linesIn(USE, "java"));
        Files.writeString(mine, "class Mine { public static void main(String[] args) {\n" + body + "\n} }\n");
        String[] args = line.replace("javac ", "").replace(" out ", " " + place + " ").replace("Mine.java", mine.toString())
            .split(" ");
        int end = ToolProvider.findFirst("javac").orElseThrow().run(System.out, System.out, args);
        check.due("javac", end, 0);
        try (Stream<Path> made = Files.list(place)) {
            for (Path each : made.toList()) Files.delete(each);
        }
        Files.delete(place);
    }

    /** The table has each call of the document's face, with the names that its arguments have there. */
    private void calls() throws IOException {
        Set<String> told = new TreeSet<>();
        for (String line : under(USE).lines().filter(l -> l.startsWith("|")).toList()) {
            Pattern.compile("`(\\w+\\([^`]*\\))`").matcher(line).results().map(r -> r.group(1)).forEach(told::add);
        }
        String face = Files.readString(Path.of("../shared/DOC.md"));
        Set<String> due = Pattern.compile("(?m)^    public (?:int|long) (\\w+\\(.*\\));$").matcher(face).results()
            .map(r -> r.group(1).replace("int ", "")).collect(Collectors.toCollection(TreeSet::new));
        check.holds("the calls told " + told + " are those of the face " + due, told.equals(due));
        Set<String> names = told.stream().map(c -> c.substring(0, c.indexOf('('))).collect(Collectors.toSet());
        for (Method m : LostBets.class.getDeclaredMethods()) {
            if (Modifier.isPublic(m.getModifiers())) check.holds(m.getName() + " is told", names.contains(m.getName()));
        }
    }

    private void command() throws IOException {
        List<String> lines = linesIn(RUN, "sh");
        check.holds("one command runs the tests", lines.equals(List.of(".ci/run")));
        for (String line : lines) {
            Path script = Path.of(line);
            check.holds(line + " is there", Files.isRegularFile(script));
            check.holds(line + " can be run", Files.isExecutable(script));
            check.holds(line + " names what runs it", Files.readString(script).startsWith("#!/bin/bash\n"));
        }
    }

    private void testsNamed() throws IOException {
        Set<String> told = Pattern.compile("(?m)^- `(\\w+)`: ").matcher(under(RUN)).results()
            .map((MatchResult r) -> r.group(1)).collect(Collectors.toCollection(TreeSet::new));
        List<String> there = new ArrayList<>();
        try (Stream<Path> files = Files.list(TESTS)) {
            files.map(f -> f.getFileName().toString()).filter(f -> f.endsWith("Test.java"))
                .forEach(f -> there.add(f.replace(".java", "")));
        }
        check.holds("the tests told " + told + " are those there " + there, told.equals(new TreeSet<>(there)));
    }
}
