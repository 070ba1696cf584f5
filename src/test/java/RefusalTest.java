import java.lang.reflect.Method;
import java.util.ArrayList;
import java.util.Arrays;
import java.util.HashSet;
import java.util.List;
import java.util.Map;
import java.util.Set;
import java.util.function.Consumer;
import java.util.regex.Matcher;
import java.util.regex.Pattern;

/**
 * The refusals of each call in the order in which its promise tells them: every argument below, at and above its
 * bounds, together with each of the others; and that a refusal changes nothing but how many there were.
 */
public final class RefusalTest {
    /** As what a refusal is told by int calls, by hope() and by longs. */
    private static final long HOPE = 1000000000L;
    private static final long LONGS = 4000000000000000000L;

    private static final String A_PERSON = "0 5 -1 -1";
    private static final String AN_EVENT = "0 4 -1 -1";
    private static final String SIXTY = "0 60 -4 -6";

    /**
     * A call, how its promise ends, and of each argument: the least and the greatest that is not refused, as what
     * one below and one above is. The promise's end gives the order of the refusals.
     */
    private static final String[][] CALLS = {
        {"feed", "-4; -6 (255; 96, too).", "0 255 -4 -6"},
        {"personOf", "-1; -2.", A_PERSON, "0 7 -2 -2"},
        {"belief", "-1 either.", A_PERSON, AN_EVENT},
        {"eventOf", "-1; -2.", AN_EVENT, "0 2 -2 -2"},
        {"wagerOf", "-1; -2.", "0 0 -1 -1", "0 4 -2 -2"},
        {"person", "-2; -4; -6 (9; 7 there are).", "0 5 -2 -2", "0 9 -4 -6"},
        {"wishes", "-1 either.", A_PERSON, "0 6 -1 -1"},
        {"believes", "-1 either; -4; -6 9.", A_PERSON, AN_EVENT, "0 9 -4 -6"},
        {"fixes", "-1; -4 (EVERY below 1, ON); -6 (9; 8).", AN_EVENT, "1 9 -4 -6", "0 8 -4 -6"},
        {"proposes", "-1 (one twice, no such EVENT); -2 SIDE; -4 1; -6 9; -3 it can not be.", A_PERSON, A_PERSON,
            AN_EVENT, "0 1 -2 -2", "1 9 -4 -6"},
        {"days", "-4 1; -6 (60; DAY above 999).", "1 60 -4 -6"},
        {"back", "-3 none."},
        {"personIn", "-1; -4; -6 60; -2.", A_PERSON, SIXTY, "0 1 -2 -2"},
        {"beliefIn", "-1 either; -4; -6 60.", A_PERSON, AN_EVENT, SIXTY},
        {"wedIn", "-4; -6 60.", SIXTY},
        {"wedWhen", "-1.", "-1 5 -1 -1"},
        {"happens", "-1; -4; -6 60.", AN_EVENT, SIXTY},
        {"bet", "-1 (one twice, too).", A_PERSON, A_PERSON},
        {"takers", "-1 either; -2 SIDE.", A_PERSON, AN_EVENT, "0 1 -2 -2"},
        {"wooers", "-1.", A_PERSON},
        {"match", "-1.", "-1 5 -1 -1"},
        {"fix", "-4; -6 30.", "0 30 -4 -6"},
        {"preach", "-1.", AN_EVENT},
        {"fair", "-2.", "0 1 -2 -2"},
        {"hedge", "-4 either; -6 (99; 30).", "0 99 -4 -6", "0 30 -4 -6"},
        {"uponWhat", "-1; -2.", A_PERSON, "0 1 -2 -2"},
        {"whatKind", "-1; -2.", A_PERSON, "0 1 -2 -2"},
        {"two", "-1 (one twice, no such EVENT); -3 either is not FREE.", A_PERSON, A_PERSON, AN_EVENT},
        {"sure", "Refused as told: -1; -4 (n; t below 2); -6 (7; 20); -2.", A_PERSON, "0 7 -4 -6", "2 20 -4 -6",
            "0 1 -2 -2"},
        {"shares", "-4 1; -6 9; -2.", "1 9 -4 -6", "0 1 -2 -2"},
        {"saddest", "-2.", "0 2 -2 -2"},
        {"wished", "-1.", A_PERSON},
        {"mean", "Refused as told: -1; -2.", AN_EVENT, "0 1 -2 -2"},
        {"scorn", "-1.", AN_EVENT},
        {"left", "-2.", "0 4 -2 -2"},
        {"hope", "Refused as told: -1 either; -4; -6 60.", A_PERSON, AN_EVENT, SIXTY},
        {"row", "-4; -6 (99; 12, too).", "0 99 -4 -6"},
        {"lots", "-4; -6 20; -2.", "1 20 -4 -6", "-2147483648 2147483647 0 0", "0 1 -2 -2"},
        {"restore", "-3 there is none."},
    };

    /** What can not be refused. */
    private static final Set<String> NEVER = Set.of("LostBets", "town", "judge", "clear", "image", "count");

    private final Check check = new Check("RefusalTest");
    private final Map<String, String> promises = new Doc().promises();
    private final String untouched = allOf(aTown());

    public static void main(String[] args) throws ReflectiveOperationException {
        RefusalTest test = new RefusalTest();
        test.promisesAreAllHere();
        for (String[] call : CALLS) test.allWays(call);
        test.byWhatThereIs();
        test.neverRefused();
        test.check.end();
    }

    private void promisesAreAllHere() {
        Set<String> looked = new HashSet<>(NEVER);
        for (String[] call : CALLS) {
            looked.add(call[0]);
            check.holds("the promise of " + call[0] + " ends so", promises.getOrDefault(call[0], "").endsWith(" " + call[1]));
        }
        check.holds("all promises are looked at", looked.equals(promises.keySet()));
    }

    // ---- a town in which all that a refusal might change is there

    /**
     * 1 and 2 are WED, 3 and 4 in a WAGER, 0 and 5 free; the ROW, letters, an image, three changes that can be
     * TAKEN BACK, and a refusal of each number.
     */
    private static LostBets aTown() {
        LostBets x = new LostBets();
        tell(x, "p04;p04;p30;p20;p30;p55;b100;b300;a12011;a34018;d01;w05;");
        x.image();
        x.fixes(3, 9, 8);
        x.believes(5, 4, 1);
        x.days(2);
        for (int v : new int[] {5, 0, 77}) x.row(v);
        for (char c : "p04;b".toCharArray()) x.feed(c);
        x.belief(9, 9);
        x.fair(2);
        x.proposes(1, 0, 0, 0, 1);
        x.row(-1);
        x.row(100);
        return x;
    }

    private static int tell(LostBets x, String town) {
        for (char c : town.toCharArray()) x.feed(c);
        return x.town();
    }

    /** All that can be seen of an object, but how many refusals there were; uses the object up. */
    private static String allOf(LostBets x) {
        StringBuilder all = new StringBuilder(townOf(x));
        all.append(" row ").append(x.whatKind(1, 0)).append(' ').append(x.judge());
        for (int i = x.count(7); i > 0; i--) {
            all.append(" back ").append(x.back()).append(' ').append(x.count(1)).append(' ').append(x.belief(5, 4));
            all.append(' ').append(x.eventOf(3, 0)).append(' ').append(x.eventOf(3, 1));
        }
        all.append(" image ").append(x.restore()).append(townOf(x));
        all.append(" letters ").append(x.town());
        return all.toString();
    }

    private static String townOf(LostBets x) {
        List<Integer> all = new ArrayList<>();
        for (int what = 0; what <= 7; what++) all.add(x.count(what));
        for (int p = 0; p < x.count(0); p++) {
            for (int what = 0; what <= 4; what++) all.add(x.personOf(p, what));
            for (int e = 0; e < 5; e++) all.add(x.belief(p, e));
        }
        for (int e = 0; e < 5; e++) {
            all.add(x.eventOf(e, 0));
            all.add(x.eventOf(e, 1));
        }
        for (int w = 0; w < x.count(2); w++) {
            for (int what = 0; what < 5; what++) all.add(x.wagerOf(w, what));
        }
        return all.toString();
    }

    private static int[] refusalsOf(LostBets x) {
        int[] refusals = new int[7];
        for (int no = 1; no <= 6; no++) refusals[no] = x.count(10 + no);
        return refusals;
    }

    // ---- arguments

    private void allWays(String[] call) throws ReflectiveOperationException {
        int[][] bounds = new int[call.length - 2][];
        for (int i = 0; i < bounds.length; i++) {
            bounds[i] = Arrays.stream(call[i + 2].split(" ")).mapToInt(Integer::parseInt).toArray();
        }
        Class<?>[] types = new Class<?>[bounds.length];
        Arrays.fill(types, int.class);
        allWays(LostBets.class.getMethod(call[0], types), orderIn(call[1]), bounds, new ArrayList<>());
    }

    /** The refusals in the order in which a promise's end tells them. */
    private static List<Integer> orderIn(String end) {
        List<Integer> order = new ArrayList<>();
        Matcher m = Pattern.compile("-\\d").matcher(end);
        while (m.find()) order.add(Integer.parseInt(m.group()));
        return order;
    }

    private void allWays(Method method, List<Integer> order, int[][] bounds, List<Integer> args)
            throws ReflectiveOperationException {
        if (args.size() == bounds.length) {
            look(method, order, bounds, args);
            return;
        }
        int[] bound = bounds[args.size()];
        long least = bound[0];
        long greatest = bound[1];
        long[] values = {Integer.MIN_VALUE, least - 1, least, greatest, greatest + 1, Integer.MAX_VALUE};
        for (long value : Arrays.stream(values).distinct().toArray()) {
            if (value != (int) value) continue;
            args.add((int) value);
            allWays(method, order, bounds, args);
            args.remove(args.size() - 1);
        }
    }

    private void look(Method method, List<Integer> order, int[][] bounds, List<Integer> args)
            throws ReflectiveOperationException {
        Set<Integer> fits = new HashSet<>();
        for (int i = 0; i < bounds.length; i++) {
            if (args.get(i) < bounds[i][0]) fits.add(bounds[i][2]);
            if (args.get(i) > bounds[i][1]) fits.add(bounds[i][3]);
        }
        boolean isOfTwo = Set.of("proposes", "bet", "two").contains(method.getName());
        if (isOfTwo && args.get(0).equals(args.get(1))) fits.add(-1);
        int due = order.stream().filter(fits::contains).findFirst().orElse(0);
        LostBets x = aTown();
        int[] before = refusalsOf(x);
        long answer = ((Number) method.invoke(x, args.toArray())).longValue();
        String text = method.getName() + args;
        if (due == 0) {
            boolean mayNotBe = order.contains(-3) && answer == -3;
            if (!mayNotBe) check.holds(text + " is not refused", Arrays.equals(before, refusalsOf(x)));
        } else {
            check.due(text, answer, told(method.getName(), due));
            before[-due]++;
            check.holds(text + " is counted once", Arrays.equals(before, refusalsOf(x)));
            check.holds(text + " changes nothing", allOf(x).equals(untouched));
        }
    }

    private static long told(String method, int no) {
        if (method.equals("hope")) return HOPE - no;
        return method.equals("sure") || method.equals("mean") ? LONGS - no : no;
    }

    // ---- what is refused by what there is

    private interface Call {
        int on(LostBets x);
    }

    private void refused(String text, Consumer<LostBets> before, Call call, int no) {
        LostBets twin = aTown();
        before.accept(twin);
        LostBets x = aTown();
        before.accept(x);
        int[] refusals = refusalsOf(x);
        check.due(text, call.on(x), no);
        refusals[-no]++;
        check.holds(text + " is counted once", Arrays.equals(refusals, refusalsOf(x)));
        check.holds(text + " changes nothing", allOf(x).equals(allOf(twin)));
    }

    private void byWhatThereIs() {
        Consumer<LostBets> nothing = x -> { };
        Consumer<LostBets> fullOfLetters = x -> {
            for (int i = x.count(5); i < 96; i++) x.feed(';');
        };
        refused("feed, 96 letters", fullOfLetters, x -> x.feed(0), -6);
        refused("feed, 96 letters", fullOfLetters, x -> x.feed(255), -6);
        refused("feed, 96 letters and above", fullOfLetters, x -> x.feed(256), -6);
        refused("feed, 96 letters and below", fullOfLetters, x -> x.feed(-1), -4);
        Consumer<LostBets> fullOfPeople = x -> x.person(0, 0);
        refused("person, 7 there are", fullOfPeople, x -> x.person(5, 9), -6);
        refused("person, 7 there are and above", fullOfPeople, x -> x.person(0, 10), -6);
        refused("person, 7 there are and below", fullOfPeople, x -> x.person(0, -1), -4);
        refused("person, 7 there are and no KIND", fullOfPeople, x -> x.person(6, 0), -2);
        Consumer<LostBets> fullRow = x -> {
            while (x.count(6) < 12) x.row(0);
        };
        refused("row, 12 there are", fullRow, x -> x.row(0), -6);
        refused("row, 12 there are and above", fullRow, x -> x.row(100), -6);
        refused("row, 12 there are and below", fullRow, x -> x.row(-1), -4);
        Consumer<LostBets> late = x -> {
            while (x.count(1) < 940) x.days(Math.min(60, 940 - x.count(1)));
        };
        refused("days, DAY 1000", late, x -> x.days(60), -6);
        refused("days, DAY 1001 and above", late, x -> x.days(61), -6);
        Consumer<LostBets> last = late.andThen(x -> x.days(59));
        refused("days, the last DAY", last, x -> x.days(1), -6);
        refused("days, the last DAY and below", last, x -> x.days(0), -4);
        Consumer<LostBets> noneBack = x -> x.wishes(0, 5);
        refused("back, none", noneBack, LostBets::back, -3);
        refused("proposes, WED", nothing, x -> x.proposes(1, 0, 0, 0, 9), -3);
        refused("proposes, in a WAGER", nothing, x -> x.proposes(0, 4, 0, 0, 9), -3);
        refused("proposes, too much TRUST", x -> x.believes(0, 0, 9), x -> x.proposes(0, 5, 0, 1, 9), -3);
        Consumer<LostBets> notTaken = x -> x.believes(0, 0, 0);
        notTaken = notTaken.andThen(x -> x.believes(5, 0, 2));
        refused("proposes, not taken", notTaken, x -> x.proposes(0, 5, 0, 1, 9), -3);
        refused("two, the first is WED", nothing, x -> x.two(1, 0, 0), -3);
        refused("two, the second is WED", nothing, x -> x.two(0, 1, 4), -3);
        refused("two, the first is in a WAGER", nothing, x -> x.two(3, 5, 0), -3);
        refused("two, the second is in a WAGER", nothing, x -> x.two(5, 4, 0), -3);
        refused("two, both are", nothing, x -> x.two(3, 4, 0), -3);
        LostBets x = new LostBets();
        check.due("restore, there is none", x.restore(), -3);
        check.due("restore is counted once", x.count(13), 1);
        x.person(0, 0);
        x.image();
        check.due("restore, there is one", x.restore(), 0);
        check.due("back, after restore()", x.back(), -3);
    }

    private void neverRefused() {
        int[] others = {8, 9, 10, 17, -1, Integer.MIN_VALUE, Integer.MAX_VALUE};
        LostBets x = aTown();
        int[] before = refusalsOf(x);
        for (int what : others) check.due("count(" + what + ")", x.count(what), -9);
        check.holds("count() is never refused", Arrays.equals(before, refusalsOf(x)));
        check.holds("count() changes nothing", allOf(x).equals(untouched));
        x = new LostBets();
        check.due("town() of no letters", x.town(), -1000);
        check.due("town() of a wrong letter", tell(x, "x"), -1000);
        check.due("town() of nobody there", tell(x, "b000;"), -2000);
        check.due("judge() of no ROW", x.judge(), -9);
        check.due("clear() of no ROW", x.clear(), 0);
        check.due("image() of nobody", x.image(), 0);
        check.holds("these are never refused", Arrays.equals(new int[7], refusalsOf(x)));
    }
}
