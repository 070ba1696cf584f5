import java.util.Arrays;

/** A town in which nobody is wed but by a lost bet; DOC.md says what each call answers. */
public final class LostBets {
    private static final int MOST_PEOPLE = 7;
    private static final int EVENTS = 5;
    private static final int SIDES = 2;
    private static final int FIGURES = 10;
    /** A WAGER takes two of PEOPLE who are in no other, so seven have room for three. */
    private static final int MOST_OPEN = MOST_PEOPLE / 2;
    private static final int FULL_BELIEF = 9;
    private static final int MOST_EVERY = 9;
    private static final int MOST_ON = 8;
    private static final int MOST_WAGER_DAYS = 9;
    private static final int MOST_TRUST_OF_WHO_PROPOSES = 4;
    private static final int MOST_TEARS = 99;
    private static final int LAST_DAY = 999;
    private static final int MOST_DAYS = 60;
    private static final int MOST_FIX_DAYS = 30;
    private static final int MOST_IN_ROW = 12;
    private static final int MOST_ROW_NUMBER = 99;
    private static final int SUMMER_DAYS = 10;

    private static final int NOBODY = -1;
    private static final int OTHER = -2;
    private static final int STATE = -3;
    private static final int BELOW = -4;
    private static final int ROOM = -6;
    private static final int NONE = -9;
    private static final int ALLOWED = 0;
    private static final int REFUSAL_NUMBERS = 6;
    private static final int HOPE_REFUSED = 1000000000;
    private static final long LONG_REFUSED = 4000000000000000000L;
    private static final int FAULT_IN_LETTERS = -1000;
    private static final int FAULT_IN_SENSE = -2000;

    private final Town now;
    /** A second town, in which what would be is tried, so that no call has to make one. */
    private final Town mind;
    private final Town pictured;
    private boolean isPictured;
    private final Past past;
    private final Letters letters;
    private final Twos twos;
    private final int[] told = new int[MOST_IN_ROW];
    private int inRow;
    private final int[] refusals = new int[REFUSAL_NUMBERS + 1];

    public LostBets() {
        Suitor[] kinds = {new Suitor(), new Aunt(), new Girl(), new Gambler(), new Rich(), new Honest()};
        now = new Town(kinds);
        mind = new Town(kinds);
        pictured = new Town(kinds);
        past = new Past(kinds);
        letters = new Letters();
        twos = new Twos();
    }

    // ---- letters

    public int feed(int letter) {
        if (letter < 0) return refused(BELOW);
        if (letter > 255 || letters.isFull()) return refused(ROOM);
        letters.add(letter);
        return letters.size;
    }

    public int town() {
        int bad = letters.firstBadPlace();
        if (bad >= 0) {
            letters.drop();
            return FAULT_IN_LETTERS - bad;
        }
        mind.copyFrom(now);
        int statements = 0;
        int place = 0;
        while (place < letters.size && tellInMind(place)) {
            statements++;
            place += 2 + Letters.digitsBehind(letters.at(place));
        }
        boolean isWhole = place >= letters.size;
        letters.drop();
        if (!isWhole) return FAULT_IN_SENSE - place;
        now.copyFrom(mind);
        past.forget();
        return statements;
    }

    /** Carries out the STATEMENT at a place in mind, if it is as it must be: whether it was. */
    private boolean tellInMind(int place) {
        int a = letters.digit(place + 1);
        int b = letters.digit(place + 2);
        int c = letters.digit(place + 3);
        int d = letters.digit(place + 4);
        int e = letters.digit(place + 5);
        switch (letters.at(place)) {
            case 'p':
                if (mind.refusalToCome(a, b) != ALLOWED) return false;
                mind.come(a, b);
                return true;
            case 'w':
                if (mind.refusalToWish(a, b) != ALLOWED) return false;
                mind.wish[a] = b;
                return true;
            case 'e':
                if (mind.refusalToSet(a, b, c) != ALLOWED) return false;
                mind.set(a, b, c);
                return true;
            case 'b':
                if (mind.refusalToBelieve(a, b, c) != ALLOWED) return false;
                mind.beliefs[a][b] = c;
                return true;
            case 'a':
                if (mind.refusalToPropose(a, b, c, d, e) != ALLOWED) return false;
                mind.propose(a, b, c, d, e);
                return true;
            case 'd':
                if (mind.refusalToGoOn(10 * a + b) != ALLOWED) return false;
                mind.goOn(10 * a + b);
                return true;
            default:
                return false;
        }
    }

    // ---- what there is

    public int personOf(int person, int what) {
        if (!now.has(person)) return refused(NOBODY);
        switch (what) {
            case 0: return now.kind[person];
            case 1: return now.figure[person];
            case 2: return now.wish[person];
            case 3: return now.tears[person];
            case 4: return now.wed[person];
            case 5: return now.asks[person];
            case 6: return now.weeps[person];
            case 7: return now.learns[person];
            default: return refused(OTHER);
        }
    }

    public int belief(int person, int event) {
        if (!now.has(person) || !isEvent(event)) return refused(NOBODY);
        return now.beliefs[person][event];
    }

    public int eventOf(int event, int what) {
        if (!isEvent(event)) return refused(NOBODY);
        switch (what) {
            case 0: return now.every[event];
            case 1: return now.on[event];
            case 2: return now.comesOn(event, now.day) ? 1 : 0;
            default: return refused(OTHER);
        }
    }

    public int wagerOf(int wager, int what) {
        if (wager < 0 || wager >= now.open) return refused(NOBODY);
        Wager it = now.wagers[wager];
        switch (what) {
            case 0: return it.one;
            case 1: return it.other;
            case 2: return it.event;
            case 3: return it.side;
            case 4: return it.wait;
            default: return refused(OTHER);
        }
    }

    public int count(int what) {
        switch (what) {
            case 0: return now.people;
            case 1: return now.day;
            case 2: return now.open;
            case 3: return now.wedBits();
            case 4: return now.allTears(0);
            case 5: return letters.size;
            case 6: return inRow;
            case 7: return past.size;
            default: return what > 10 && what <= 10 + REFUSAL_NUMBERS ? refusals[what - 10] : NONE;
        }
    }

    // ---- what changes the town

    public int person(int kind, int figure) {
        int no = now.refusalToCome(kind, figure);
        if (no != ALLOWED) return refused(no);
        now.come(kind, figure);
        past.forget();
        return now.people - 1;
    }

    public int wishes(int person, int other) {
        int no = now.refusalToWish(person, other);
        if (no != ALLOWED) return refused(no);
        int before = now.wish[person];
        now.wish[person] = other;
        past.forget();
        return before;
    }

    public int believes(int person, int event, int v) {
        int no = now.refusalToBelieve(person, event, v);
        if (no != ALLOWED) return refused(no);
        past.keep(now);
        int before = now.beliefs[person][event];
        now.beliefs[person][event] = v;
        return before;
    }

    public int fixes(int event, int every, int on) {
        int no = now.refusalToSet(event, every, on);
        if (no != ALLOWED) return refused(no);
        past.keep(now);
        int before = 10 * now.every[event] + now.on[event];
        now.set(event, every, on);
        return before;
    }

    public int proposes(int one, int other, int event, int side, int days) {
        int no = now.refusalToPropose(one, other, event, side, days);
        if (no != ALLOWED) return refused(no);
        past.keep(now);
        now.propose(one, other, event, side, days);
        return now.open;
    }

    public int days(int n) {
        int no = now.refusalToGoOn(n);
        if (no != ALLOWED) return refused(no);
        past.keep(now);
        now.goOn(n);
        return now.howManyWed(0);
    }

    public int back() {
        if (past.size == 0) return refused(STATE);
        past.putBack(now);
        return past.size;
    }

    public int image() {
        pictured.copyFrom(now);
        isPictured = true;
        return now.day;
    }

    public int restore() {
        if (!isPictured) return refused(STATE);
        now.copyFrom(pictured);
        past.forget();
        return now.day;
    }

    // ---- in mind, DAYS on

    public int personIn(int person, int n, int what) {
        if (!now.has(person)) return refused(NOBODY);
        if (n < 0) return refused(BELOW);
        if (n > MOST_DAYS) return refused(ROOM);
        if (!isOneOf(what, 2)) return refused(OTHER);
        return what == 0 ? now.wedTo(person, n) : now.tearsOf(person, n);
    }

    public int beliefIn(int person, int event, int n) {
        int no = refusalOfBeliefIn(person, event, n);
        return no == ALLOWED ? now.beliefOf(person, event, n) : refused(no);
    }

    public int hope(int person, int event, int n) {
        int no = refusalOfBeliefIn(person, event, n);
        if (no != ALLOWED) return HOPE_REFUSED - refused(no);
        return now.beliefOf(person, event, n) - now.beliefs[person][event];
    }

    private int refusalOfBeliefIn(int person, int event, int n) {
        if (!now.has(person) || !isEvent(event)) return NOBODY;
        if (n < 0) return BELOW;
        return n > MOST_DAYS ? ROOM : ALLOWED;
    }

    public int wedIn(int n) {
        if (n < 0) return refused(BELOW);
        if (n > MOST_DAYS) return refused(ROOM);
        return now.howManyWed(n);
    }

    public int wedWhen(int person) {
        if (person == -1) return firstToWed();
        if (!now.has(person)) return refused(NOBODY);
        return now.daysToWedding(person);
    }

    private int firstToWed() {
        int first = NONE;
        int soonest = MOST_DAYS + 1;
        for (int p = 0; p < now.people; p++) {
            int wait = now.daysToWedding(p);
            if (wait > 0 && wait < soonest) {
                soonest = wait;
                first = p;
            }
        }
        return first;
    }

    public int happens(int event, int n) {
        if (!isEvent(event)) return refused(NOBODY);
        if (n < 0) return refused(BELOW);
        if (n > MOST_DAYS) return refused(ROOM);
        int often = 0;
        for (int d = 1; d <= n; d++) {
            if (now.comesOn(event, now.day + d)) often++;
        }
        return often;
    }

    // ---- what to bet on with whom

    public int bet(int one, int other) {
        if (!now.areTwo(one, other)) return refused(NOBODY);
        return now.bestBet(one, other);
    }

    public int takers(int one, int event, int side) {
        if (!now.has(one) || !isEvent(event)) return refused(NOBODY);
        if (!isOneOf(side, SIDES)) return refused(OTHER);
        int bits = 0;
        for (int p = 0; p < now.people; p++) {
            if (p != one && now.wouldTake(p, one, event, side)) bits |= 1 << p;
        }
        return bits;
    }

    public int wooers(int person) {
        return now.has(person) ? now.wooerBits(person) : refused(NOBODY);
    }

    public int match(int person) {
        if (person != -1 && !now.has(person)) return refused(NOBODY);
        twos.reckon(now);
        return person == -1 ? twos.most() : twos.partnerOf(person);
    }

    public int fix(int n) {
        if (n < 0) return refused(BELOW);
        if (n > MOST_FIX_DAYS) return refused(ROOM);
        mind.copyFrom(now);
        int best = NONE;
        int most = now.howManyWed(n);
        for (int e = 0; e < EVENTS; e++) {
            for (int on = 0; on <= MOST_ON; on++) {
                mind.on[e] = on;
                int wed = mind.howManyWed(n);
                if (wed > most) {
                    most = wed;
                    best = 10 * e + on;
                }
            }
            mind.on[e] = now.on[e];
        }
        return best;
    }

    public int preach(int event) {
        if (!isEvent(event)) return refused(NOBODY);
        mind.copyFrom(now);
        int best = NONE;
        int most = 0;
        for (int p = 0; p < now.people; p++) {
            mind.beliefs[p][event] = FULL_BELIEF - now.beliefs[p][event];
            int wooing = Integer.bitCount(mind.wooerBits(p));
            if (wooing > most && wooing > Integer.bitCount(now.wooerBits(p))) {
                most = wooing;
                best = p;
            }
            mind.beliefs[p][event] = now.beliefs[p][event];
        }
        return best;
    }

    public int fair(int what) {
        if (!isOneOf(what, 2)) return refused(OTHER);
        int bits = 0;
        for (int w = 0; w < now.open; w++) {
            if (what == 0 ? now.isFair(w) : now.isLost(w)) bits |= 1 << w;
        }
        return bits;
    }

    public int hedge(int v, int n) {
        if (v < 0 || n < 0) return refused(BELOW);
        if (v > MOST_TEARS || n > MOST_FIX_DAYS) return refused(ROOM);
        int best = NONE;
        int fewest = now.open + 1;
        for (int off = 0; off < 1 << now.open; off++) {
            callOffInMind(off);
            if (Integer.bitCount(off) < fewest && mind.allTears(n) <= v) {
                fewest = Integer.bitCount(off);
                best = off;
            }
        }
        return best;
    }

    private void callOffInMind(int off) {
        mind.copyFrom(now);
        // from the last one, since closing a WAGER moves those behind it
        for (int w = now.open - 1; w >= 0; w--) {
            if ((off >> w & 1) == 1) mind.close(w);
        }
    }

    public int two(int one, int other, int event) {
        if (!now.areTwo(one, other) || !isEvent(event)) return refused(NOBODY);
        if (!now.isFree(one) || !now.isFree(other)) return refused(STATE);
        mind.copyFrom(now);
        for (int a = 0; a <= 1; a++) {
            for (int b = 0; b <= 1; b++) {
                int gain = gainOfTwo(one, other, event, a, b);
                boolean oneStays = gain - 2 * a >= gainOfTwo(one, other, event, 1 - a, b) - 2 * (1 - a);
                boolean otherStays = gain - 2 * b >= gainOfTwo(one, other, event, a, 1 - b) - 2 * (1 - b);
                if (oneStays && otherStays) return 10 * a + b;
            }
        }
        return NONE;
    }

    /** What each of TWO has, by whether the one (a) and the other (b) believe, before believing costs. */
    private int gainOfTwo(int one, int other, int event, int a, int b) {
        mind.beliefs[one][event] = FULL_BELIEF * a;
        mind.beliefs[other][event] = FULL_BELIEF * b;
        boolean weds = mind.canBe(one, other, event, 1) && !mind.comesOn(event, mind.day + 1);
        return weds ? 5 : 0;
    }

    // ---- by the ROW

    public int row(int v) {
        if (v < 0) return refused(BELOW);
        if (v > MOST_ROW_NUMBER || inRow >= MOST_IN_ROW) return refused(ROOM);
        told[inRow] = v;
        inRow++;
        return inRow;
    }

    public int clear() {
        int had = inRow;
        inRow = 0;
        return had;
    }

    public int judge() {
        int first = NONE;
        for (int i = 0; i < inRow && first == NONE; i++) {
            if (!now.has(i) || now.beliefs[i][0] != told[i]) first = i;
        }
        inRow = 0;
        return first;
    }

    public int uponWhat(int person, int what) {
        if (!now.has(person)) return refused(NOBODY);
        if (!isOneOf(what, 2)) return refused(OTHER);
        mind.copyFrom(now);
        int w = mind.wagerWith(person);
        if (w < 0) return NONE;
        Wager it = mind.wagers[w];
        int bits = 0;
        for (int c = 0; c < (what == 0 ? EVENTS : SIDES); c++) {
            if (what == 0) it.event = c;
            else it.side = c;
            if (isRowSoInMind(person)) bits |= 1 << c;
        }
        return bits;
    }

    public int whatKind(int person, int what) {
        if (!now.has(person)) return refused(NOBODY);
        if (!isOneOf(what, 2)) return refused(OTHER);
        mind.copyFrom(now);
        int bits = 0;
        for (int c = 0; c < (what == 0 ? mind.kinds.length : FIGURES); c++) {
            if (what == 0) mind.become(person, c, now.figure[person]);
            else mind.become(person, now.kind[person], c);
            if (isRowSoInMind(person)) bits |= 1 << c;
        }
        return bits;
    }

    private boolean isRowSoInMind(int person) {
        for (int d = 0; d < inRow; d++) {
            if (told[d] != mind.tearsOf(person, d)) return false;
        }
        return true;
    }

    // ---- odds, shares, lots

    public long sure(int person, int n, int t, int part) {
        if (!now.has(person)) return refusedLong(NOBODY);
        if (n < 0 || t < 2) return refusedLong(BELOW);
        if (n > 7 || t > 20) return refusedLong(ROOM);
        if (!isOneOf(part, 2)) return refusedLong(OTHER);
        int above = now.isWed(person) ? 1 : 0;
        int below = 1;
        int w = now.wagerWith(person);
        // one is in one WAGER at most, so only the DAY on which that comes out counts
        if (w >= 0 && now.wagers[w].wait <= n) {
            above = now.wagers[w].side == 1 ? t - 1 : 1;
            below = t;
        }
        return part == 0 ? above : below;
    }

    public long mean(int event, int part) {
        if (!isEvent(event)) return refusedLong(NOBODY);
        if (!isOneOf(part, 2)) return refusedLong(OTHER);
        if (now.people == 0) return part;
        int sum = 0;
        for (int p = 0; p < now.people; p++) sum += now.beliefs[p][event];
        int common = 1;
        for (int d = 2; d <= now.people; d++) {
            if (sum % d == 0 && now.people % d == 0) common = d;
        }
        return (part == 0 ? sum : now.people) / common;
    }

    public int shares(int n, int what) {
        if (n < 1) return refused(BELOW);
        if (n > 9) return refused(ROOM);
        if (!isOneOf(what, 2)) return refused(OTHER);
        return what == 0 ? now.allTears(0) / n : now.allTears(0) % n;
    }

    public int lots(int n, int z, int what) {
        if (n < 1) return refused(BELOW);
        if (n > 20) return refused(ROOM);
        if (!isOneOf(what, 2)) return refused(OTHER);
        mind.copyFrom(now);
        int seed = z;
        int sum = 0;
        for (int summer = 0; summer < n; summer++) {
            for (int e = 0; e < EVENTS; e++) {
                seed = seed * 1103515245 + 12345;
                mind.on[e] = (seed & 0x7fffffff) / 65536 % 9;
            }
            sum += what == 0 ? mind.howManyWed(SUMMER_DAYS) : mind.allTears(SUMMER_DAYS);
        }
        return sum;
    }

    // ---- who is sad, wished, free, scornful; what is left

    public int saddest(int what) {
        switch (what) {
            case 0: return whoHasMostTears();
            case 1: return twosWhoWishEachOther(false);
            case 2: return now.freeBits();
            default: return refused(OTHER);
        }
    }

    private int whoHasMostTears() {
        int saddest = NONE;
        for (int p = 0; p < now.people; p++) {
            if (saddest == NONE || now.tears[p] > now.tears[saddest]) saddest = p;
        }
        return saddest;
    }

    private int twosWhoWishEachOther(boolean areWed) {
        int number = 0;
        for (int p = 0; p < now.people; p++) {
            int other = now.wish[p];
            boolean isMutual = other > p && other < now.people && now.wish[other] == p;
            if (isMutual && (!areWed || now.wed[p] == other)) number++;
        }
        return number;
    }

    public int wished(int person) {
        if (!now.has(person)) return refused(NOBODY);
        int number = 0;
        for (int p = 0; p < now.people; p++) {
            if (p != person && now.wish[p] == person) number++;
        }
        return number;
    }

    public int scorn(int event) {
        if (!isEvent(event)) return refused(NOBODY);
        int number = 0;
        for (int p = 0; p < now.people; p++) {
            int it = now.beliefs[p][event];
            if (it == 0 || it == FULL_BELIEF) number++;
        }
        return number;
    }

    public int left(int what) {
        switch (what) {
            case 0: return daysOfLastWager();
            case 1: return longestChasteRun();
            case 2: return eventsToday();
            case 3: return twosWhoWishEachOther(true);
            case 4: return rivals();
            default: return refused(OTHER);
        }
    }

    private int daysOfLastWager() {
        int last = 0;
        for (int w = 0; w < now.open; w++) last = Math.max(last, now.wagers[w].wait);
        return last;
    }

    private int longestChasteRun() {
        int longest = 0;
        int run = 0;
        for (int d = 1; d <= MOST_DAYS; d++) {
            run = now.howManyWed(d) > now.howManyWed(d - 1) ? 0 : run + 1;
            longest = Math.max(longest, run);
        }
        return longest;
    }

    private int eventsToday() {
        int bits = 0;
        for (int e = 0; e < EVENTS; e++) {
            if (now.comesOn(e, now.day)) bits |= 1 << e;
        }
        return bits;
    }

    private int rivals() {
        int number = 0;
        for (int p = 0; p < now.people; p++) {
            int third = now.wish[p];
            if (third == p || !now.has(third)) continue;
            for (int other = p + 1; other < now.people; other++) {
                if (other != third && now.wish[other] == third) number++;
            }
        }
        return number;
    }

    // ---- refusals

    private int refused(int no) {
        refusals[-no]++;
        return no;
    }

    private long refusedLong(int no) {
        return LONG_REFUSED - refused(no);
    }

    private static boolean isEvent(int event) {
        return isOneOf(event, EVENTS);
    }

    private static boolean isOneOf(int number, int many) {
        return number >= 0 && number < many;
    }

    // ---- the kinds, each under the one that it extends

    private static class Suitor {
        int asks(int figure) { return 5; }
        int weeps(int figure) { return 5; }
        int learns() { return 1; }
    }

    private static class Aunt extends Suitor {
        int asks(int figure) { return super.asks(figure) + 1; }
        int weeps(int figure) { return super.weeps(figure) - 3; }
        int learns() { return 0; }
    }

    private static final class Girl extends Suitor {
        int asks(int figure) { return figure; }
        int weeps(int figure) { return 2 * super.weeps(figure); }
        int learns() { return super.learns() + 1; }
    }

    private static class Gambler extends Suitor {
        int asks(int figure) { return 0; }
        int weeps(int figure) { return 0; }
    }

    private static final class Rich extends Aunt {
        int asks(int figure) { return super.asks(figure) + figure / 3; }
        int weeps(int figure) { return super.weeps(figure) + 1; }
        int learns() { return super.learns() + 1; }
    }

    private static final class Honest extends Gambler {
        int asks(int figure) { return super.asks(figure) + 3; }
        int weeps(int figure) { return super.weeps(figure) + figure; }
        int learns() { return super.learns() + 2; }
    }

    private static final class Wager {
        private int one;
        private int other;
        private int event;
        private int side;
        /** DAYS yet. */
        private int wait;

        void beLike(Wager from) {
            one = from.one;
            other = from.other;
            event = from.event;
            side = from.side;
            wait = from.wait;
        }
    }

    /** People, events, beliefs, the day and the open wagers: all that can be taken back or pictured. */
    private static final class Town {
        private final Suitor[] kinds;
        private int people;
        private final int[] kind = new int[MOST_PEOPLE];
        private final int[] figure = new int[MOST_PEOPLE];
        private final int[] asks = new int[MOST_PEOPLE];
        private final int[] weeps = new int[MOST_PEOPLE];
        private final int[] learns = new int[MOST_PEOPLE];
        private final int[] wish = new int[MOST_PEOPLE];
        private final int[] tears = new int[MOST_PEOPLE];
        private final int[] wed = new int[MOST_PEOPLE];
        private final int[][] beliefs = new int[MOST_PEOPLE][EVENTS];
        private final int[] every = new int[EVENTS];
        private final int[] on = new int[EVENTS];
        private final Wager[] wagers = new Wager[MOST_OPEN];
        private int open;
        private int day;

        Town(Suitor[] kinds) {
            this.kinds = kinds;
            for (int e = 0; e < EVENTS; e++) every[e] = e + 2;
            for (int w = 0; w < MOST_OPEN; w++) wagers[w] = new Wager();
        }

        void copyFrom(Town from) {
            people = from.people;
            open = from.open;
            day = from.day;
            copy(from.kind, kind);
            copy(from.figure, figure);
            copy(from.asks, asks);
            copy(from.weeps, weeps);
            copy(from.learns, learns);
            copy(from.wish, wish);
            copy(from.tears, tears);
            copy(from.wed, wed);
            copy(from.every, every);
            copy(from.on, on);
            for (int p = 0; p < people; p++) copy(from.beliefs[p], beliefs[p]);
            for (int w = 0; w < open; w++) wagers[w].beLike(from.wagers[w]);
        }

        private static void copy(int[] from, int[] to) {
            System.arraycopy(from, 0, to, 0, to.length);
        }

        boolean has(int person) {
            return person >= 0 && person < people;
        }

        boolean areTwo(int one, int other) {
            return has(one) && has(other) && one != other;
        }

        // What may change the town, a refusal and the change each: calls and STATEMENTS share them.

        int refusalToCome(int newKind, int newFigure) {
            if (!isOneOf(newKind, kinds.length)) return OTHER;
            if (newFigure < 0) return BELOW;
            return newFigure >= FIGURES || people >= MOST_PEOPLE ? ROOM : ALLOWED;
        }

        void come(int newKind, int newFigure) {
            become(people, newKind, newFigure);
            wish[people] = people;
            tears[people] = 0;
            wed[people] = NONE;
            Arrays.fill(beliefs[people], 5);
            people++;
        }

        void become(int person, int newKind, int newFigure) {
            kind[person] = newKind;
            figure[person] = newFigure;
            asks[person] = kinds[newKind].asks(newFigure);
            weeps[person] = kinds[newKind].weeps(newFigure);
            learns[person] = kinds[newKind].learns();
        }

        /** Whom one WISHES need not be there. */
        int refusalToWish(int person, int other) {
            return has(person) && isOneOf(other, MOST_PEOPLE) ? ALLOWED : NOBODY;
        }

        int refusalToBelieve(int person, int event, int v) {
            if (!has(person) || !isEvent(event)) return NOBODY;
            if (v < 0) return BELOW;
            return v > FULL_BELIEF ? ROOM : ALLOWED;
        }

        int refusalToSet(int event, int newEvery, int newOn) {
            if (!isEvent(event)) return NOBODY;
            if (newEvery < 1 || newOn < 0) return BELOW;
            return newEvery > MOST_EVERY || newOn > MOST_ON ? ROOM : ALLOWED;
        }

        void set(int event, int newEvery, int newOn) {
            every[event] = newEvery;
            on[event] = newOn;
        }

        int refusalToPropose(int one, int other, int event, int side, int wait) {
            if (!areTwo(one, other) || !isEvent(event)) return NOBODY;
            if (!isOneOf(side, SIDES)) return OTHER;
            if (wait < 1) return BELOW;
            if (wait > MOST_WAGER_DAYS) return ROOM;
            // no two are free while MOST_OPEN are open, so this refuses nothing more, but no index goes unlooked at
            return open < MOST_OPEN && canBe(one, other, event, side) ? ALLOWED : STATE;
        }

        void propose(int one, int other, int event, int side, int wait) {
            Wager it = wagers[open];
            it.one = one;
            it.other = other;
            it.event = event;
            it.side = side;
            it.wait = wait;
            open++;
        }

        int refusalToGoOn(int n) {
            if (n < 1) return BELOW;
            return n > MOST_DAYS || day + n > LAST_DAY ? ROOM : ALLOWED;
        }

        void goOn(int n) {
            for (int d = 0; d < n; d++) {
                day++;
                comeOut();
                learn();
            }
        }

        private void comeOut() {
            int w = 0;
            for (int yet = open; yet > 0; yet--) {
                Wager it = wagers[w];
                it.wait--;
                if (it.wait > 0) {
                    w++;
                } else {
                    if (isLost(w)) marry(it.one, it.other);
                    close(w);
                }
            }
        }

        private void marry(int one, int other) {
            wed[one] = other;
            wed[other] = one;
            tears[one] = withMore(one);
            tears[other] = withMore(other);
        }

        private int withMore(int person) {
            return Math.min(MOST_TEARS, tears[person] + weeps[person]);
        }

        void close(int w) {
            Wager gone = wagers[w];
            for (int i = w + 1; i < open; i++) wagers[i - 1] = wagers[i];
            open--;
            wagers[open] = gone;
        }

        private void learn() {
            for (int e = 0; e < EVENTS; e++) {
                boolean comes = comesOn(e, day);
                for (int p = 0; p < people; p++) beliefs[p][e] = learned(beliefs[p][e], learns[p], comes);
            }
        }

        private static int learned(int belief, int by, boolean comes) {
            return comes ? Math.min(FULL_BELIEF, belief + by) : Math.max(0, belief - by);
        }

        boolean comesOn(int event, int date) {
            return (date + on[event]) % every[event] == 0;
        }

        // Wagers.

        private int trust(int person, int event, int side) {
            return side == 1 ? beliefs[person][event] : FULL_BELIEF - beliefs[person][event];
        }

        boolean wouldTake(int person, int from, int event, int side) {
            return wish[person] == from || trust(person, event, side) >= asks[person];
        }

        boolean canBe(int one, int other, int event, int side) {
            return isFree(one) && isFree(other)
                && trust(one, event, side) <= MOST_TRUST_OF_WHO_PROPOSES
                && wouldTake(other, one, event, side);
        }

        boolean isFair(int w) {
            Wager it = wagers[w];
            return trust(it.one, it.event, it.side) == trust(it.other, it.event, it.side);
        }

        boolean isLost(int w) {
            Wager it = wagers[w];
            return comesOn(it.event, day + it.wait) != (it.side == 1);
        }

        int bestBet(int one, int other) {
            for (int wait = 1; wait <= MOST_WAGER_DAYS; wait++) {
                for (int e = 0; e < EVENTS; e++) {
                    int losing = comesOn(e, day + wait) ? 0 : 1;
                    if (canBe(one, other, e, losing)) return 100 * e + 10 * losing + wait;
                }
            }
            return NONE;
        }

        int wooerBits(int person) {
            int bits = 0;
            for (int p = 0; p < people; p++) {
                if (p != person && bestBet(p, person) != NONE) bits |= 1 << p;
            }
            return bits;
        }

        /** The open WAGER that one is in, or less than 0. */
        int wagerWith(int person) {
            for (int w = 0; w < open; w++) {
                if (wagers[w].one == person || wagers[w].other == person) return w;
            }
            return NONE;
        }

        boolean isWed(int person) {
            return wed[person] != NONE;
        }

        boolean isFree(int person) {
            return !isWed(person) && wagerWith(person) < 0;
        }

        int freeBits() {
            int bits = 0;
            for (int p = 0; p < people; p++) {
                if (isFree(p)) bits |= 1 << p;
            }
            return bits;
        }

        int wedBits() {
            int bits = 0;
            for (int p = 0; p < people; p++) {
                if (isWed(p)) bits |= 1 << p;
            }
            return bits;
        }

        // Behind n DAYS. How a WAGER comes out is known from EVERY and ON, so no DAY need go by for it.

        int daysToWedding(int person) {
            if (isWed(person)) return 0;
            int w = wagerWith(person);
            return w >= 0 && isLost(w) ? wagers[w].wait : NONE;
        }

        private boolean isWedIn(int person, int n) {
            int wait = daysToWedding(person);
            return wait >= 0 && wait <= n;
        }

        int wedTo(int person, int n) {
            int w = wagerWith(person);
            if (w < 0 || !isWedIn(person, n)) return wed[person];
            return wagers[w].one == person ? wagers[w].other : wagers[w].one;
        }

        int tearsOf(int person, int n) {
            return !isWed(person) && isWedIn(person, n) ? withMore(person) : tears[person];
        }

        int howManyWed(int n) {
            int number = 0;
            for (int p = 0; p < people; p++) {
                if (isWedIn(p, n)) number++;
            }
            return number;
        }

        int allTears(int n) {
            int sum = 0;
            for (int p = 0; p < people; p++) sum += tearsOf(p, n);
            return sum;
        }

        int beliefOf(int person, int event, int n) {
            int belief = beliefs[person][event];
            for (int d = 1; d <= n; d++) belief = learned(belief, learns[person], comesOn(event, day + d));
            return belief;
        }
    }

    /** The towns before the latest changes, the newest at last. */
    private static final class Past {
        private static final int DEPTH = 8;
        private final Town[] kept = new Town[DEPTH];
        private int last;
        private int size;

        Past(Suitor[] kinds) {
            for (int i = 0; i < DEPTH; i++) kept[i] = new Town(kinds);
        }

        void keep(Town town) {
            last = (last + 1) % DEPTH;
            kept[last].copyFrom(town);
            size = Math.min(DEPTH, size + 1);
        }

        void putBack(Town town) {
            town.copyFrom(kept[last]);
            last = (last + DEPTH - 1) % DEPTH;
            size--;
        }

        void forget() {
            size = 0;
        }
    }

    /** The letters in which a town is told. */
    private static final class Letters {
        private static final int MOST = 96;
        private static final int END = -1;
        private final int[] text = new int[MOST];
        private int size;

        boolean isFull() {
            return size >= MOST;
        }

        void add(int letter) {
            text[size] = letter;
            size++;
        }

        void drop() {
            size = 0;
        }

        int at(int place) {
            return place >= 0 && place < size ? text[place] : END;
        }

        int digit(int place) {
            return at(place) - '0';
        }

        /** How many digits a STATEMENT has behind its first letter; less than 0 if none begins so. */
        static int digitsBehind(int letter) {
            switch (letter) {
                case 'p':
                case 'w':
                case 'd':
                    return 2;
                case 'e':
                case 'b':
                    return 3;
                case 'a':
                    return 5;
                default:
                    return -1;
            }
        }

        /** The first place at which this is no TOWN, be it the end; less than 0 if it is one. */
        int firstBadPlace() {
            int place = 0;
            do {
                int digits = digitsBehind(at(place));
                if (digits < 0) return place;
                place++;
                for (int d = 0; d < digits; d++) {
                    if (!isOneOf(digit(place), 10)) return place;
                    place++;
                }
                if (at(place) != ';') return place;
                place++;
            } while (place < size);
            return NONE;
        }
    }

    /** The most twos who have a BET one way or the other, and the first way to have as many. */
    private static final class Twos {
        private final int[] near = new int[MOST_PEOPLE];
        /** By a set of PEOPLE (bits): the most twos among them. */
        private final int[] mostAmong = new int[1 << MOST_PEOPLE];
        private int all;

        void reckon(Town town) {
            all = (1 << town.people) - 1;
            Arrays.fill(near, 0);
            for (int p = 0; p < town.people; p++) {
                int wooing = town.wooerBits(p);
                near[p] |= wooing;
                for (int other = 0; other < town.people; other++) {
                    if (isIn(wooing, other)) near[other] |= 1 << p;
                }
            }
            for (int set = 1; set <= all; set++) mostAmong[set] = mostIn(set);
        }

        private int mostIn(int set) {
            int least = 0;
            while (least < MOST_PEOPLE - 1 && !isIn(set, least)) least++;
            int rest = set & ~(1 << least);
            int most = mostAmong[rest];
            for (int p = 0; p < MOST_PEOPLE; p++) {
                if (isIn(rest & near[least], p)) most = Math.max(most, 1 + mostAmong[rest & ~(1 << p)]);
            }
            return most;
        }

        int most() {
            return mostAmong[all];
        }

        int partnerOf(int person) {
            int set = all;
            for (int p = 0; p < MOST_PEOPLE; p++) {
                if (!isIn(set, p)) continue;
                int partner = firstPartner(set, p);
                if (p == person) return partner;
                if (partner == person) return p;
                set &= ~(1 << p);
                if (partner != NONE) set &= ~(1 << partner);
            }
            return NONE;
        }

        /** With whom the least one of a set is, so that as many twos come as can. */
        private int firstPartner(int set, int least) {
            int rest = set & ~(1 << least);
            for (int p = 0; p < MOST_PEOPLE; p++) {
                if (isIn(rest & near[least], p) && 1 + mostAmong[rest & ~(1 << p)] == mostAmong[set]) return p;
            }
            return NONE;
        }

        private static boolean isIn(int set, int person) {
            return (set >> person & 1) == 1;
        }
    }
}
