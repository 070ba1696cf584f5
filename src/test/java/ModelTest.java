import java.lang.reflect.Method;
import java.util.ArrayList;
import java.util.HashMap;
import java.util.List;
import java.util.Map;
import java.util.Random;

/** Compares LostBets with the Model call by call, on runs drawn from fixed seeds. */
public final class ModelTest {
    private static final int RUNS = 1500;
    private static final int CALLS = 512;

    /**
     * How often a call is drawn, its name, and what its arguments are: p one of PEOPLE, P that or -1, w a
     * WAGER, or a range.
     */
    private static final String[] CALLS_DRAWN = {
        "1 town", "2 personOf p 0-7", "2 belief p 0-4", "2 eventOf 0-4 0-2", "3 wagerOf w 0-4", "2 person 0-5 0-9",
        "3 wishes p 0-6", "8 believes p 0-4 0-9", "3 fixes 0-4 1-9 0-8", "20 proposes p p 0-4 0-1 1-9",
        "2 days 1-60", "8 days 1-3", "4 back", "3 personIn p 0-60 0-1", "3 personIn p 0-9 0-1", "3 beliefIn p 0-4 0-60",
        "2 wedIn 0-60", "2 wedIn 0-9", "3 wedWhen P", "2 happens 0-4 0-60", "4 bet p p", "3 takers p 0-4 0-1",
        "3 wooers p", "5 match P", "3 fix 0-30", "2 fix 0-9", "4 preach 0-4", "4 fair 0-1", "4 hedge 0-99 0-30",
        "3 hedge 0-25 0-9", "6 uponWhat p 0-1", "6 whatKind p 0-1", "4 two p p 0-4", "3 sure p 0-7 2-20 0-1",
        "2 shares 1-9 0-1", "2 saddest 0-2", "2 wished p", "2 mean 0-4 0-1", "2 scorn 0-4", "4 left 0-4",
        "3 hope p 0-4 0-60", "3 row 0-99", "1 judge", "1 clear", "3 lots 1-20 z 0-1", "1 image", "1 restore",
        "3 count 0-16", "1 feed 0-255", "4 TELL", "3 TEARS p", "2 BELIEFS",
    };

    private final Random random;
    private final LostBets real = new LostBets();
    private final Model model = new Model();
    private final List<String> trace = new ArrayList<>();
    private int calls;
    private boolean isAsDue = true;

    private ModelTest(long seed) {
        random = new Random(seed);
    }

    public static void main(String[] args) throws ReflectiveOperationException {
        Check check = new Check("ModelTest");
        Map<String, Integer> answered = new HashMap<>();
        for (int run = 0; run < RUNS && check.wrong() < 3; run++) {
            ModelTest test = new ModelTest(run);
            test.play(answered);
            check.holds("run " + run + ": " + String.join(" ", test.trace), test.isAsDue);
        }
        for (Method m : LostBets.class.getDeclaredMethods()) {
            if (!java.lang.reflect.Modifier.isPublic(m.getModifiers())) continue;
            check.holds(m.getName() + " was answered often", answered.getOrDefault(m.getName(), 0) > 1000);
        }
        check.end();
    }

    private void play(Map<String, Integer> answered) throws ReflectiveOperationException {
        List<String> bag = new ArrayList<>();
        for (String call : CALLS_DRAWN) {
            String[] parts = call.split(" ", 2);
            for (int i = 0; i < Integer.parseInt(parts[0]); i++) bag.add(parts[1]);
        }
        int people = random.nextInt(8);
        for (int i = 0; i < people && isAsDue; i++) call("person", random.nextInt(6), random.nextInt(10));
        for (int i = 0; i < people && isAsDue; i++) call("wishes", i, random.nextInt(7));
        while (calls < CALLS && isAsDue) {
            String[] drawn = bag.get(random.nextInt(bag.size())).split(" ");
            switch (drawn[0]) {
                case "TELL": tell(); break;
                case "TEARS": tellTears(); break;
                case "BELIEFS": tellBeliefs(); break;
                default:
                    int[] args = new int[drawn.length - 1];
                    for (int i = 0; i < args.length; i++) args[i] = argument(drawn[i + 1]);
                    call(drawn[0], args);
                    answered.merge(drawn[0], 1, Integer::sum);
            }
        }
    }

    private int argument(String range) {
        if (range.equals("z")) return random.nextInt();
        int least = range.equals("P") ? -1 : 0;
        int most;
        if (range.equalsIgnoreCase("p")) {
            most = Math.max(0, model.count(0) - 1);
        } else if (range.equals("w")) {
            most = Math.max(0, model.count(2) - 1);
        } else {
            String[] ends = range.split("-");
            least = Integer.parseInt(ends[0]);
            most = Integer.parseInt(ends[1]);
        }
        switch (random.nextInt(60)) {
            case 0: return least - 1;
            case 1: return most + 1;
            case 2: return random.nextBoolean() ? Integer.MIN_VALUE : Integer.MAX_VALUE;
            case 3: return random.nextBoolean() ? least : most;
            default: return least + random.nextInt(most - least + 1);
        }
    }

    /** Feeds some STATEMENTS, most of them well told. */
    private void tell() throws ReflectiveOperationException {
        StringBuilder text = new StringBuilder();
        int statements = 1 + random.nextInt(6);
        for (int i = 0; i < statements; i++) {
            char letter = "pwebad".charAt(random.nextInt(6));
            text.append(letter);
            String[] ranges = switch (letter) {
                case 'p' -> new String[] {"0-5", "0-9"};
                case 'w' -> new String[] {"p", "0-6"};
                case 'e' -> new String[] {"0-4", "1-9", "0-8"};
                case 'b' -> new String[] {"p", "0-4", "0-9"};
                case 'a' -> new String[] {"p", "p", "0-4", "0-1", "1-9"};
                default -> new String[] {"0-1", "0-9"};
            };
            for (String range : ranges) text.append(Math.floorMod(argument(range), 10));
            text.append(';');
        }
        if (random.nextInt(6) == 0) text.setCharAt(random.nextInt(text.length()), "p0;x9/:".charAt(random.nextInt(7)));
        if (random.nextInt(8) == 0) text.setLength(random.nextInt(text.length()));
        for (int i = 0; i < text.length(); i++) call("feed", (int) text.charAt(i));
        call("town");
    }

    /** A ROW that is so of one in the town, or all but so. */
    private void tellTears() throws ReflectiveOperationException {
        if (model.count(0) == 0) return;
        call("clear");
        int person = random.nextInt(model.count(0));
        int numbers = random.nextInt(13);
        for (int d = 0; d < numbers; d++) {
            int tears = model.now.behind(d).people.get(person).tears;
            call("row", random.nextInt(30) == 0 ? random.nextInt(100) : tears);
        }
        call("uponWhat", person, 0);
        call("uponWhat", person, 1);
        call("whatKind", person, 0);
        call("whatKind", person, 1);
    }

    private void tellBeliefs() throws ReflectiveOperationException {
        call("clear");
        for (int p = 0; p < model.count(0); p++) {
            call("row", random.nextInt(12) == 0 ? random.nextInt(10) : model.now.people.get(p).belief[0]);
        }
        if (random.nextInt(5) == 0) call("row", 5);
        call("judge");
    }

    private void call(String name, int... args) throws ReflectiveOperationException {
        if (calls >= CALLS || !isAsDue) return;
        calls++;
        Class<?>[] types = new Class<?>[args.length];
        Object[] values = new Object[args.length];
        for (int i = 0; i < args.length; i++) {
            types[i] = int.class;
            values[i] = args[i];
        }
        long want = ((Number) Model.class.getMethod(name, types).invoke(model, values)).longValue();
        long got = ((Number) LostBets.class.getMethod(name, types).invoke(real, values)).longValue();
        String text = name + java.util.Arrays.toString(args);
        trace.add(text + "=" + got);
        if (got != want) {
            trace.add("but due is " + want);
            isAsDue = false;
        }
    }
}
