import java.math.BigInteger;
import java.util.ArrayList;
import java.util.Arrays;
import java.util.List;
import java.util.function.IntPredicate;
import java.util.function.ToIntFunction;
import java.util.regex.Matcher;
import java.util.regex.Pattern;
import java.util.stream.IntStream;

/**
 * The document once more, written for plainness alone: what is behind n DAYS is found by letting n DAYS go
 * by on a copy, and what is best by trying all. ModelTest compares LostBets with it.
 */
final class Model {
    static final class Person {
        int kind, figure, wish, tears, wed = -9;
        int[] belief = {5, 5, 5, 5, 5};

        Person copy() {
            Person p = new Person();
            p.kind = kind;
            p.figure = figure;
            p.wish = wish;
            p.tears = tears;
            p.wed = wed;
            p.belief = belief.clone();
            return p;
        }

        int asks() {
            return new int[] {5, 6, figure, 0, 6 + figure / 3, 3}[kind];
        }

        int weeps() {
            return new int[] {5, 2, 10, 0, 3, figure}[kind];
        }

        int learns() {
            return new int[] {1, 0, 2, 1, 1, 3}[kind];
        }

        int trust(int event, int side) {
            return side == 1 ? belief[event] : 9 - belief[event];
        }
    }

    static final class State {
        List<Person> people = new ArrayList<>();
        int[] every = {2, 3, 4, 5, 6};
        int[] on = new int[5];
        int day;
        /** one, other, event, side, days yet */
        List<int[]> wagers = new ArrayList<>();

        State copy() {
            State s = new State();
            for (Person p : people) s.people.add(p.copy());
            s.every = every.clone();
            s.on = on.clone();
            s.day = day;
            for (int[] w : wagers) s.wagers.add(w.clone());
            return s;
        }

        boolean happens(int event) {
            return (day + on[event]) % every[event] == 0;
        }

        void go(IntPredicate happens) {
            day++;
            for (int[] w : new ArrayList<>(wagers)) {
                if (--w[4] > 0) continue;
                wagers.remove(w);
                if (happens.test(w[2]) == (w[3] == 1)) continue;
                weep(w[0], w[1]);
                weep(w[1], w[0]);
            }
            for (Person p : people) {
                for (int e = 0; e < 5; e++) {
                    int to = happens.test(e) ? 1 : -1;
                    for (int i = 0; i < p.learns(); i++) {
                        if (p.belief[e] + to >= 0 && p.belief[e] + to <= 9) p.belief[e] += to;
                    }
                }
            }
        }

        void weep(int one, int other) {
            Person p = people.get(one);
            p.wed = other;
            p.tears = Math.min(99, p.tears + p.weeps());
        }

        State behind(int n) {
            State s = copy();
            for (int d = 0; d < n; d++) s.go(s::happens);
            return s;
        }

        boolean free(int p) {
            return people.get(p).wed < 0 && wagers.stream().noneMatch(w -> w[0] == p || w[1] == p);
        }

        boolean takes(int one, int other, int event, int side) {
            Person p = people.get(other);
            return p.wish == one || p.trust(event, side) >= p.asks();
        }

        boolean canBe(int one, int other, int event, int side) {
            return free(one) && free(other) && people.get(one).trust(event, side) <= 4 && takes(one, other, event, side);
        }

        int wed() {
            return (int) people.stream().filter(p -> p.wed >= 0).count();
        }

        int tears() {
            return people.stream().mapToInt(p -> p.tears).sum();
        }

        int bet(int one, int other) {
            int best = -9;
            int soonest = 10;
            for (int e = 0; e < 5; e++) {
                for (int s = 0; s < 2; s++) {
                    for (int d = 1; d <= 9; d++) {
                        if (!canBe(one, other, e, s) || d >= soonest) continue;
                        State t = copy();
                        t.wagers.add(new int[] {one, other, e, s, d});
                        if (t.behind(d).people.get(one).wed == other) {
                            best = 100 * e + 10 * s + d;
                            soonest = d;
                        }
                    }
                }
            }
            return best;
        }

        int wooers(int p) {
            return bits(people.size(), i -> i != p && bet(i, p) >= 0);
        }
    }

    static int bits(int n, IntPredicate is) {
        return IntStream.range(0, n).filter(is).map(i -> 1 << i).sum();
    }

    State now = new State();
    State image;
    List<State> past = new ArrayList<>();
    StringBuilder text = new StringBuilder();
    List<Integer> row = new ArrayList<>();
    int[] refusals = new int[7];

    int no(int refusal) {
        refusals[-refusal]++;
        return refusal;
    }

    long noLong(int refusal) {
        return 4000000000000000000L - no(refusal);
    }

    boolean here(int... people) {
        return Arrays.stream(people).allMatch(p -> p >= 0 && p < now.people.size());
    }

    static boolean in(int v, int least, int most) {
        return v >= least && v <= most;
    }

    void keep() {
        past.add(now.copy());
        if (past.size() > 8) past.remove(0);
    }

    public int feed(int letter) {
        if (letter < 0) return no(-4);
        if (letter > 255 || text.length() == 96) return no(-6);
        text.append((char) letter);
        return text.length();
    }

    static final Pattern TOWN = Pattern.compile("(?:(?:[pwd][0-9]{2}|[eb][0-9]{3}|a[0-9]{5});)+");

    public int town() {
        String t = text.toString();
        text.setLength(0);
        for (int i = 1; i <= t.length(); i++) {
            Matcher m = TOWN.matcher(t.substring(0, i));
            if (!m.matches() && !m.hitEnd()) return -1000 - (i - 1);
        }
        if (!TOWN.matcher(t).matches()) return -1000 - t.length();
        Model trial = new Model();
        trial.now = now.copy();
        int place = 0;
        int told = 0;
        for (String s : t.split(";")) {
            int[] d = s.substring(1).chars().map(c -> c - '0').toArray();
            int answer = switch (s.charAt(0)) {
                case 'p' -> trial.person(d[0], d[1]);
                case 'w' -> trial.wishes(d[0], d[1]);
                case 'e' -> trial.fixes(d[0], d[1], d[2]);
                case 'b' -> trial.believes(d[0], d[1], d[2]);
                case 'a' -> trial.proposes(d[0], d[1], d[2], d[3], d[4]);
                default -> trial.days(10 * d[0] + d[1]);
            };
            if (answer < 0) return -2000 - place;
            place += s.length() + 1;
            told++;
        }
        now = trial.now;
        past.clear();
        return told;
    }

    public int personOf(int person, int what) {
        if (!here(person)) return no(-1);
        if (!in(what, 0, 7)) return no(-2);
        Person p = now.people.get(person);
        return new int[] {p.kind, p.figure, p.wish, p.tears, p.wed, p.asks(), p.weeps(), p.learns()}[what];
    }

    public int belief(int person, int event) {
        if (!here(person) || !in(event, 0, 4)) return no(-1);
        return now.people.get(person).belief[event];
    }

    public int eventOf(int event, int what) {
        if (!in(event, 0, 4)) return no(-1);
        if (!in(what, 0, 2)) return no(-2);
        return what == 0 ? now.every[event] : what == 1 ? now.on[event] : now.happens(event) ? 1 : 0;
    }

    public int wagerOf(int wager, int what) {
        if (!in(wager, 0, now.wagers.size() - 1)) return no(-1);
        if (!in(what, 0, 4)) return no(-2);
        return now.wagers.get(wager)[what];
    }

    public int person(int kind, int figure) {
        if (!in(kind, 0, 5)) return no(-2);
        if (figure < 0) return no(-4);
        if (figure > 9 || now.people.size() == 7) return no(-6);
        Person p = new Person();
        p.kind = kind;
        p.figure = figure;
        p.wish = now.people.size();
        now.people.add(p);
        past.clear();
        return p.wish;
    }

    public int wishes(int person, int other) {
        if (!here(person) || !in(other, 0, 6)) return no(-1);
        Person p = now.people.get(person);
        int was = p.wish;
        p.wish = other;
        past.clear();
        return was;
    }

    public int believes(int person, int event, int v) {
        if (!here(person) || !in(event, 0, 4)) return no(-1);
        if (v < 0) return no(-4);
        if (v > 9) return no(-6);
        keep();
        int was = now.people.get(person).belief[event];
        now.people.get(person).belief[event] = v;
        return was;
    }

    public int fixes(int event, int every, int on) {
        if (!in(event, 0, 4)) return no(-1);
        if (every < 1 || on < 0) return no(-4);
        if (every > 9 || on > 8) return no(-6);
        keep();
        int was = 10 * now.every[event] + now.on[event];
        now.every[event] = every;
        now.on[event] = on;
        return was;
    }

    public int proposes(int one, int other, int event, int side, int days) {
        if (!here(one, other) || one == other || !in(event, 0, 4)) return no(-1);
        if (!in(side, 0, 1)) return no(-2);
        if (days < 1) return no(-4);
        if (days > 9) return no(-6);
        if (!now.canBe(one, other, event, side)) return no(-3);
        keep();
        now.wagers.add(new int[] {one, other, event, side, days});
        return now.wagers.size();
    }

    public int days(int n) {
        if (n < 1) return no(-4);
        if (n > 60 || now.day + n > 999) return no(-6);
        keep();
        now = now.behind(n);
        return now.wed();
    }

    public int back() {
        if (past.isEmpty()) return no(-3);
        now = past.remove(past.size() - 1);
        return past.size();
    }

    public int personIn(int person, int n, int what) {
        if (!here(person)) return no(-1);
        if (n < 0) return no(-4);
        if (n > 60) return no(-6);
        if (!in(what, 0, 1)) return no(-2);
        Person p = now.behind(n).people.get(person);
        return what == 0 ? p.wed : p.tears;
    }

    public int beliefIn(int person, int event, int n) {
        if (!here(person) || !in(event, 0, 4)) return no(-1);
        if (n < 0) return no(-4);
        if (n > 60) return no(-6);
        return now.behind(n).people.get(person).belief[event];
    }

    public int wedIn(int n) {
        if (n < 0) return no(-4);
        if (n > 60) return no(-6);
        return now.behind(n).wed();
    }

    public int wedWhen(int person) {
        if (person == -1) {
            State s = now.copy();
            for (int d = 1; d <= 60; d++) {
                s.go(s::happens);
                for (int p = 0; p < now.people.size(); p++) {
                    if (now.people.get(p).wed < 0 && s.people.get(p).wed >= 0) return p;
                }
            }
            return -9;
        }
        if (!here(person)) return no(-1);
        State s = now.copy();
        for (int d = 0; d <= 60; d++) {
            if (s.people.get(person).wed >= 0) return d;
            s.go(s::happens);
        }
        return -9;
    }

    public int happens(int event, int n) {
        if (!in(event, 0, 4)) return no(-1);
        if (n < 0) return no(-4);
        if (n > 60) return no(-6);
        State s = now.copy();
        int often = 0;
        for (int d = 0; d < n; d++) {
            s.go(s::happens);
            if (s.happens(event)) often++;
        }
        return often;
    }

    public int bet(int one, int other) {
        if (!here(one, other) || one == other) return no(-1);
        return now.bet(one, other);
    }

    public int takers(int one, int event, int side) {
        if (!here(one) || !in(event, 0, 4)) return no(-1);
        if (!in(side, 0, 1)) return no(-2);
        return bits(now.people.size(), p -> p != one && now.takes(one, p, event, side));
    }

    public int wooers(int person) {
        return here(person) ? now.wooers(person) : no(-1);
    }

    public int match(int person) {
        if (person != -1 && !here(person)) return no(-1);
        int n = now.people.size();
        boolean[][] near = new boolean[n][n];
        for (int i = 0; i < n; i++) {
            for (int j = 0; j < n; j++) near[i][j] = i != j && (now.bet(i, j) >= 0 || now.bet(j, i) >= 0);
        }
        int[] first = null;
        int most = -1;
        List<int[]> all = new ArrayList<>();
        int[] with = new int[n];
        Arrays.fill(with, -1);
        listMatches(near, with, 0, all);
        for (int[] m : all) {
            int twos = (int) Arrays.stream(m).filter(x -> x >= 0).count() / 2;
            if (twos > most) {
                most = twos;
                first = m;
            }
        }
        return person == -1 ? most : first[person];
    }

    /** All ways to be two by two, by PEOPLE with the least one first and alone last. */
    static void listMatches(boolean[][] near, int[] with, int p, List<int[]> all) {
        if (p == with.length) {
            all.add(with.clone());
            return;
        }
        if (with[p] >= 0) {
            listMatches(near, with, p + 1, all);
            return;
        }
        for (int q = p + 1; q < with.length; q++) {
            if (!near[p][q] || with[q] != -1) continue;
            with[p] = q;
            with[q] = p;
            listMatches(near, with, p + 1, all);
            with[p] = -1;
            with[q] = -1;
        }
        with[p] = -9;
        listMatches(near, with, p + 1, all);
        with[p] = -1;
    }

    public int fix(int n) {
        if (n < 0) return no(-4);
        if (n > 30) return no(-6);
        int most = now.behind(n).wed();
        int best = -9;
        for (int c = 0; c < 50; c++) {
            if (c % 10 == 9) continue;
            State s = now.copy();
            s.on[c / 10] = c % 10;
            int wed = s.behind(n).wed();
            if (wed > most) {
                most = wed;
                best = c;
            }
        }
        return best;
    }

    public int preach(int event) {
        if (!in(event, 0, 4)) return no(-1);
        int best = -9;
        int most = -1;
        for (int p = 0; p < now.people.size(); p++) {
            State s = now.copy();
            s.people.get(p).belief[event] = 9 - s.people.get(p).belief[event];
            int then = Integer.bitCount(s.wooers(p));
            if (then > Integer.bitCount(now.wooers(p)) && then > most) {
                most = then;
                best = p;
            }
        }
        return best;
    }

    public int fair(int what) {
        if (!in(what, 0, 1)) return no(-2);
        return bits(now.wagers.size(), i -> {
            int[] w = now.wagers.get(i);
            if (what == 1) return now.behind(w[4]).people.get(w[0]).wed >= 0;
            return now.people.get(w[0]).trust(w[2], w[3]) == now.people.get(w[1]).trust(w[2], w[3]);
        });
    }

    public int hedge(int v, int n) {
        if (v < 0 || n < 0) return no(-4);
        if (v > 99 || n > 30) return no(-6);
        int best = -9;
        for (int off = 0; off < 1 << now.wagers.size(); off++) {
            State s = now.copy();
            s.wagers.clear();
            for (int i = 0; i < now.wagers.size(); i++) {
                if ((off >> i & 1) == 0) s.wagers.add(now.wagers.get(i).clone());
            }
            if (s.behind(n).tears() > v) continue;
            if (best < 0 || Integer.bitCount(off) < Integer.bitCount(best)) best = off;
        }
        return best;
    }

    boolean rowIsSo(State s, int person) {
        return IntStream.range(0, row.size()).allMatch(d -> s.behind(d).people.get(person).tears == row.get(d));
    }

    public int uponWhat(int person, int what) {
        if (!here(person)) return no(-1);
        if (!in(what, 0, 1)) return no(-2);
        for (int i = 0; i < now.wagers.size(); i++) {
            int w = i;
            if (now.wagers.get(i)[0] != person && now.wagers.get(i)[1] != person) continue;
            return bits(what == 0 ? 5 : 2, c -> {
                State s = now.copy();
                s.wagers.get(w)[2 + what] = c;
                return rowIsSo(s, person);
            });
        }
        return -9;
    }

    public int whatKind(int person, int what) {
        if (!here(person)) return no(-1);
        if (!in(what, 0, 1)) return no(-2);
        return bits(what == 0 ? 6 : 10, c -> {
            State s = now.copy();
            if (what == 0) s.people.get(person).kind = c;
            else s.people.get(person).figure = c;
            return rowIsSo(s, person);
        });
    }

    int[] gains(int one, int other, int event, int a, int b) {
        State s = now.copy();
        s.people.get(one).belief[event] = 9 * a;
        s.people.get(other).belief[event] = 9 * b;
        int gain = 0;
        if (s.canBe(one, other, event, 1)) {
            s.wagers.add(new int[] {one, other, event, 1, 1});
            if (s.behind(1).people.get(one).wed == other) gain = 5;
        }
        return new int[] {gain - 2 * a, gain - 2 * b};
    }

    public int two(int one, int other, int event) {
        if (!here(one, other) || one == other || !in(event, 0, 4)) return no(-1);
        if (!now.free(one) || !now.free(other)) return no(-3);
        for (int c : new int[] {0, 1, 10, 11}) {
            int a = c / 10;
            int b = c % 10;
            int[] g = gains(one, other, event, a, b);
            if (gains(one, other, event, 1 - a, b)[0] > g[0]) continue;
            if (gains(one, other, event, a, 1 - b)[1] > g[1]) continue;
            return c;
        }
        return -9;
    }

    /** Goes through all ways in which the EVENTS may happen or not on n DAYS. */
    public long sure(int person, int n, int t, int part) {
        if (!here(person)) return noLong(-1);
        if (n < 0 || t < 2) return noLong(-4);
        if (n > 7 || t > 20) return noLong(-6);
        if (!in(part, 0, 1)) return noLong(-2);
        BigInteger above = BigInteger.ZERO;
        for (int way = 0; way < 1 << n; way++) {
            State s = now.copy();
            BigInteger odds = BigInteger.ONE;
            for (int d = 0; d < n; d++) {
                boolean all = (way >> d & 1) == 1;
                s.go(e -> all);
                if (!all) odds = odds.multiply(BigInteger.valueOf(t - 1));
            }
            if (s.people.get(person).wed >= 0) above = above.add(odds);
        }
        BigInteger below = BigInteger.valueOf(t).pow(n);
        BigInteger common = above.gcd(below);
        return (part == 0 ? above : below).divide(common).longValueExact();
    }

    public int shares(int n, int what) {
        if (n < 1) return no(-4);
        if (n > 9) return no(-6);
        if (!in(what, 0, 1)) return no(-2);
        return what == 0 ? now.tears() / n : now.tears() % n;
    }

    int twos(ToIntFunction<int[]> is) {
        int number = 0;
        for (int i = 0; i < now.people.size(); i++) {
            for (int j = 0; j < i; j++) number += is.applyAsInt(new int[] {j, i});
        }
        return number;
    }

    boolean wishesOne(int p, int q) {
        return p != q && here(q) && now.people.get(p).wish == q;
    }

    boolean mutual(int p, int q) {
        return wishesOne(p, q) && wishesOne(q, p);
    }

    public int saddest(int what) {
        if (!in(what, 0, 2)) return no(-2);
        if (what == 1) return twos(t -> mutual(t[0], t[1]) ? 1 : 0);
        if (what == 2) return bits(now.people.size(), now::free);
        int most = now.people.stream().mapToInt(p -> p.tears).max().orElse(0);
        return IntStream.range(0, now.people.size()).filter(p -> now.people.get(p).tears == most).findFirst().orElse(-9);
    }

    public int wished(int person) {
        if (!here(person)) return no(-1);
        return (int) IntStream.range(0, now.people.size()).filter(p -> wishesOne(p, person)).count();
    }

    public long mean(int event, int part) {
        if (!in(event, 0, 4)) return noLong(-1);
        if (!in(part, 0, 1)) return noLong(-2);
        if (now.people.isEmpty()) return part;
        int sum = now.people.stream().mapToInt(p -> p.belief[event]).sum();
        int common = BigInteger.valueOf(sum).gcd(BigInteger.valueOf(now.people.size())).intValue();
        return (part == 0 ? sum : now.people.size()) / common;
    }

    public int scorn(int event) {
        if (!in(event, 0, 4)) return no(-1);
        return (int) now.people.stream().filter(p -> p.belief[event] % 9 == 0).count();
    }

    public int left(int what) {
        if (!in(what, 0, 4)) return no(-2);
        switch (what) {
            case 0: return now.wagers.stream().mapToInt(w -> w[4]).max().orElse(0);
            case 1: return chaste();
            case 2: return bits(5, now::happens);
            case 3: return twos(t -> now.people.get(t[0]).wed == t[1] && mutual(t[0], t[1]) ? 1 : 0);
            default:
                return twos(t -> IntStream.range(0, now.people.size())
                    .anyMatch(k -> wishesOne(t[0], k) && wishesOne(t[1], k)) ? 1 : 0);
        }
    }

    int chaste() {
        int longest = 0;
        int run = 0;
        State s = now.copy();
        for (int d = 1; d <= 60; d++) {
            int before = s.wed();
            s.go(s::happens);
            run = s.wed() > before ? 0 : run + 1;
            longest = Math.max(longest, run);
        }
        return longest;
    }

    public int hope(int person, int event, int n) {
        int refusal = !here(person) || !in(event, 0, 4) ? -1 : n < 0 ? -4 : n > 60 ? -6 : 0;
        if (refusal < 0) return 1000000000 - no(refusal);
        return now.behind(n).people.get(person).belief[event] - now.people.get(person).belief[event];
    }

    public int row(int v) {
        if (v < 0) return no(-4);
        if (v > 99 || row.size() == 12) return no(-6);
        row.add(v);
        return row.size();
    }

    public int judge() {
        List<Integer> numbers = new ArrayList<>(row);
        row.clear();
        for (int i = 0; i < numbers.size(); i++) {
            if (!here(i) || now.people.get(i).belief[0] != numbers.get(i)) return i;
        }
        return -9;
    }

    public int clear() {
        int had = row.size();
        row.clear();
        return had;
    }

    public int lots(int n, int z, int what) {
        if (n < 1) return no(-4);
        if (n > 20) return no(-6);
        if (!in(what, 0, 1)) return no(-2);
        int sum = 0;
        for (int i = 0; i < n; i++) {
            State s = now.copy();
            for (int e = 0; e < 5; e++) {
                z = z * 1103515245 + 12345;
                s.on[e] = (z & Integer.MAX_VALUE) / 65536 % 9;
            }
            s = s.behind(10);
            sum += what == 0 ? s.wed() : s.tears();
        }
        return sum;
    }

    public int image() {
        image = now.copy();
        return now.day;
    }

    public int restore() {
        if (image == null) return no(-3);
        now = image.copy();
        past.clear();
        return now.day;
    }

    public int count(int what) {
        switch (what) {
            case 0: return now.people.size();
            case 1: return now.day;
            case 2: return now.wagers.size();
            case 3: return bits(now.people.size(), p -> now.people.get(p).wed >= 0);
            case 4: return now.tears();
            case 5: return text.length();
            case 6: return row.size();
            case 7: return past.size();
            case 11: case 12: case 13: case 14: case 15: case 16: return refusals[what - 10];
            default: return -9;
        }
    }
}
