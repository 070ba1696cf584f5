import java.math.BigInteger;
import java.util.ArrayList;
import java.util.Arrays;
import java.util.List;

/**
 * Each sentence of DOC.md that names a boundary, quoted, with a test of its own at that boundary. The refusals of
 * arguments are in RefusalTest, the promises by themselves in PromiseTest.
 */
public final class EdgeTest {
    /** All EVENTS happen each DAY, so a WAGER is lost if its SIDE is 0. */
    private static final String DAILY = "e010;e110;e210;e310;e410;";
    /** Three times a suitor who dares to bet that event 0 happens, and a gambler who takes all. */
    private static final String PAIRS = "p04;p30;p04;p30;p04;p30;b000;b200;b400;";
    private static final int MIN = Integer.MIN_VALUE;
    private static final int MAX = Integer.MAX_VALUE;

    private final Check check = new Check("EdgeTest");
    private final Doc doc = new Doc();
    private String sentence = "";
    private boolean isLookedAt = true;

    public static void main(String[] args) {
        EdgeTest test = new EdgeTest();
        test.people();
        test.events();
        test.wagers();
        test.whatCanBe();
        test.kinds();
        test.daysGoBy();
        test.beliefsLearn();
        test.statements();
        test.faultsInLetters();
        test.faultsInSense();
        test.inMind();
        test.passing999();
        test.wedWhen();
        test.bet();
        test.takersAndWooers();
        test.match();
        test.fix();
        test.preach();
        test.fairAndLost();
        test.hedge();
        test.uponWhat();
        test.whatKind();
        test.two();
        test.sure();
        test.sharesAndJudged();
        test.lots();
        test.takenBack();
        test.noneTakenBack();
        test.whoWishes();
        test.beliefsOfAll();
        test.left();
        test.image();
        test.counted();
        test.sentence("");
        test.check.end();
    }

    /** What follows looks at these words of the document. */
    private void sentence(String words) {
        check.holds("something was looked at for '" + sentence + "'", isLookedAt);
        check.holds("DOC.md says '" + words + "'", doc.says(words));
        sentence = words;
        isLookedAt = false;
    }

    private void due(String what, long got, long want) {
        isLookedAt = true;
        check.due("'" + sentence + "': " + what, got, want);
    }

    private static int tell(LostBets x, String town) {
        for (char c : town.toCharArray()) x.feed(c);
        return x.town();
    }

    private LostBets in(String town) {
        LostBets x = new LostBets();
        check.holds("the town " + town, tell(x, town) > 0);
        return x;
    }

    private LostBets onDay(int day, String town) {
        LostBets x = new LostBets();
        while (x.count(1) < day) x.days(Math.min(60, day - x.count(1)));
        check.holds("the town " + town + " on DAY " + day, tell(x, town) > 0);
        return x;
    }

    private static void row(LostBets x, int... numbers) {
        x.clear();
        for (int v : numbers) x.row(v);
    }

    // ---- I. Terms

    private void people() {
        sentence("PEOPLE 0 .. as they come (7 at most)");
        LostBets x = new LostBets();
        for (int i = 0; i < 7; i++) due("who comes", x.person(0, 0), i);
        due("the eighth", x.person(0, 0), -6);
        due("the eighth in letters", tell(x, "p00;"), -2000);
        due("how many", x.count(0), 7);
        due("the seventh", x.belief(6, 0), 5);
        due("no eighth", x.belief(7, 0), -1);
        x = in("p49;p49;p49;p49;p49;p49;p04;" + DAILY);
        due("the seventh by PREACH", x.preach(0), 6);
        due("the seventh by MATCH", in("p04;p04;p04;p04;p04;p04;p30;").match(6), 0);
        x = in("p04;p04;p04;p04;p04;p04;p30;b500;a56011;");
        due("the seventh in a WAGER", x.personIn(5, 1, 0), 6);
        due("not the seventh by FIRST", x.wedWhen(-1), 5);
        x.days(1);
        due("the seventh is WED", x.count(3), 32 + 64);

        sentence("of KINDS: 0 SUITOR; 1 AUNT under SUITOR; 2 GIRL under SUITOR; 3 GAMBLER under SUITOR; "
            + "4 RICH under AUNT; 5 HONEST under GAMBLER");
        x = new LostBets();
        due("no KIND below 0", x.person(-1, 0), -2);
        for (int kind = 0; kind <= 5; kind++) due("the KIND", x.personOf(x.person(kind, 0), 0), kind);
        due("no KIND above 5", x.person(6, 0), -2);

        sentence("a FIGURE (0 .. 9)");
        x = new LostBets();
        due("below", x.person(2, -1), -4);
        due("the least", x.personOf(x.person(2, 0), 1), 0);
        due("the greatest", x.personOf(x.person(2, 9), 1), 9);
        due("above", x.person(2, 10), -6);

        sentence("WISHES one of them (0 .. 6; itself or nobody there: none; itself at first)");
        x = in("p04;p04;p04;");
        for (int p = 0; p < 3; p++) due("itself at first", x.personOf(p, 2), p);
        due("below", x.wishes(0, -1), -1);
        due("above", x.wishes(0, 7), -1);
        due("nobody there", x.wishes(0, 6), 0);
        due("nobody there", x.wishes(1, 6), 1);
        due("is told", x.personOf(0, 2), 6);
        due("is none, so no third", x.left(4), 0);
        for (int i = 3; i < 7; i++) x.person(0, 4);
        due("is one as soon as it is there", x.left(4), 1);
        due("is one as soon as it is there", x.wished(6), 2);
        x.wishes(2, 2);
        x.wishes(3, 2);
        due("itself is none", x.wished(2), 1);
        due("itself is none, so no third", x.left(4), 1);
        due("itself is none, so not each other", x.saddest(1), 0);

        sentence("TEARS (0 .. 99; 0 at first)");
        x = in("p04;p15;p29;p36;p49;p59;");
        for (int p = 0; p < 6; p++) due("0 at first", x.personOf(p, 3), 0);

        sentence("WED to another one or not");
        for (int p = 0; p < 6; p++) due("not at first", x.personOf(p, 4), -9);
    }

    private void events() {
        sentence("EVENTS 0 .. 4: EVERY (1 .. 9; EVENT plus 2 at first), ON (0 .. 8; 0 at first)");
        LostBets x = new LostBets();
        for (int e = 0; e < 5; e++) {
            due("EVERY at first", x.eventOf(e, 0), e + 2);
            due("ON at first", x.eventOf(e, 1), 0);
        }
        due("no EVENT below 0", x.eventOf(-1, 0), -1);
        due("no EVENT above 4", x.eventOf(5, 0), -1);
        due("the least", x.fixes(4, 1, 0), 60);
        due("the greatest", x.fixes(4, 9, 8), 10);
        due("EVERY below", x.fixes(4, 0, 8), -4);
        due("EVERY above", x.fixes(4, 10, 8), -6);
        due("ON below", x.fixes(4, 9, -1), -4);
        due("ON above", x.fixes(4, 9, 9), -6);
        due("stays", x.fixes(4, 9, 8), 98);

        sentence("it happens on a DAY, if DAY and ON together are a multiple of EVERY");
        x = in("e090;e198;e210;e328;e431;");
        due("0 and 0 are a multiple of 9", x.eventOf(0, 2), 1);
        due("8 is none of 9", x.eventOf(1, 2), 0);
        due("0 is one of 1", x.eventOf(2, 2), 1);
        due("8 is one of 2", x.eventOf(3, 2), 1);
        due("1 is none of 3", x.eventOf(4, 2), 0);
        x.days(1);
        due("1 and 8 are one of 9", x.eventOf(1, 2), 1);
        due("1 is one of 1", x.eventOf(2, 2), 1);
        due("1 and 8 are none of 2", x.eventOf(3, 2), 0);
        due("1 and 1 are none of 3", x.eventOf(4, 2), 0);
        x.days(1);
        due("2 and 1 are one of 3", x.eventOf(4, 2), 1);
        x = onDay(999, "e090;e191;e281;e390;e498;");
        due("999 is one of 9", x.eventOf(0, 2), 1);
        due("999 and 1 are none of 9", x.eventOf(1, 2), 0);
        due("999 and 1 are one of 8", x.eventOf(2, 2), 1);
        due("999 and 8 are none of 9", x.eventOf(4, 2), 0);

        sentence("BELIEF of each in each EVENT (0 .. 9; 5 at first)");
        x = in("p04;p15;");
        for (int e = 0; e < 5; e++) due("5 at first", x.belief(0, e) * 10 + x.belief(1, e), 55);
        due("the least", x.believes(1, 4, 0), 5);
        due("the greatest", x.believes(1, 4, 9), 0);
        due("below", x.believes(1, 4, -1), -4);
        due("above", x.believes(1, 4, 10), -6);
        due("stays", x.belief(1, 4), 9);
        due("of each", x.belief(0, 4), 5);
        due("in each", x.belief(1, 3), 5);

        sentence("DAY (0 .. 999; 0 at first)");
        due("0 at first", new LostBets().count(1), 0);
        x = onDay(998, "e020;");
        due("to the greatest", x.days(1), 0);
        due("the greatest", x.count(1), 999);
        due("above", x.days(1), -6);
        due("above in letters", tell(x, "d01;"), -2000);
        due("stays", x.count(1), 999);
    }

    private void wagers() {
        sentence("WAGERS (open ones in the order in which they came)");
        LostBets x = in("p04;p30;p04;p30;p04;p30;b000;b209;b400;");
        due("one", x.proposes(4, 5, 0, 1, 9), 1);
        due("two, which will be won", x.proposes(2, 3, 0, 0, 1), 2);
        due("three", x.proposes(0, 1, 0, 1, 9), 3);
        due("their order", x.wagerOf(0, 0) * 100 + x.wagerOf(1, 0) * 10 + x.wagerOf(2, 0), 420);
        x.days(1);
        due("without the second", x.wagerOf(0, 0) * 10 + x.wagerOf(1, 0), 40);
        due("no third", x.wagerOf(2, 0), -1);
        due("again, at last", x.proposes(2, 3, 0, 0, 9), 3);
        due("their order", x.wagerOf(0, 0) * 100 + x.wagerOf(1, 0) * 10 + x.wagerOf(2, 0), 402);

        sentence("one PROPOSES to another one");
        x = in("p30;p30;b000;");
        due("to itself", x.proposes(0, 0, 0, 1, 1), -1);
        due("to nobody", x.proposes(0, 2, 0, 1, 1), -1);
        due("to another", x.proposes(0, 1, 0, 1, 1), 1);

        sentence("a SIDE (1 it happens, 0 not)");
        x = in("p30;p30;");
        due("below", x.proposes(0, 1, 0, -1, 1), -2);
        due("above", x.proposes(0, 1, 0, 2, 1), -2);
        due("0", x.proposes(0, 1, 0, 0, 1), 1);
        due("is told", x.wagerOf(0, 3), 0);
        x = in("p30;p30;b004;");
        due("1", x.proposes(0, 1, 0, 1, 1), 1);
        due("is told", x.wagerOf(0, 3), 1);

        sentence("in so many DAYS (1 .. 9)");
        x = in("p30;p30;p30;p30;b000;b200;");
        due("below", x.proposes(0, 1, 0, 1, 0), -4);
        due("above", x.proposes(0, 1, 0, 1, 10), -6);
        due("the least", x.proposes(0, 1, 0, 1, 1), 1);
        due("the greatest", x.proposes(2, 3, 0, 1, 9), 2);
        due("are told", x.wagerOf(0, 4) * 10 + x.wagerOf(1, 4), 19);

        sentence("TRUST of one in a SIDE: BELIEF for 1, 9 less BELIEF for 0");
        for (int trust = 0; trust <= 9; trust++) {
            // a girl takes what she TRUSTS in by her FIGURE or more
            x = in("p30;p2" + trust + ";b10" + trust + ";b11" + (9 - trust) + ";");
            due("BELIEF " + trust + " for 1", x.takers(0, 0, 1), 2);
            due("BELIEF " + (9 - trust) + " for 0", x.takers(0, 1, 0), 2);
            if (trust == 9) continue;
            x = in("p30;p2" + (trust + 1) + ";b10" + trust + ";b11" + (9 - trust) + ";");
            due("no more than " + trust + " for 1", x.takers(0, 0, 1), 0);
            due("no more than " + trust + " for 0", x.takers(0, 1, 0), 0);
        }
    }

    private void whatCanBe() {
        sentence("if neither is WED");
        LostBets x = in("p30;p30;p30;p30;b000;b200;a01011;d01;");
        due("0 and 1 are", x.count(3), 3);
        due("who PROPOSES, once the first", x.proposes(0, 2, 0, 1, 1), -3);
        due("who PROPOSES, once the second", x.proposes(1, 2, 0, 1, 1), -3);
        due("the other, once the first", x.proposes(2, 0, 0, 1, 1), -3);
        due("the other, once the second", x.proposes(2, 1, 0, 1, 1), -3);
        due("both", x.proposes(0, 1, 0, 1, 1), -3);
        due("neither", x.proposes(2, 3, 0, 1, 1), 1);

        sentence("neither is in an open one");
        x = in("p30;p30;p30;p30;b000;b100;b200;a01012;");
        due("who PROPOSES, first in it", x.proposes(0, 2, 0, 1, 1), -3);
        due("who PROPOSES, second in it", x.proposes(1, 2, 0, 1, 1), -3);
        due("the other, first in it", x.proposes(2, 0, 0, 1, 1), -3);
        due("the other, second in it", x.proposes(2, 1, 0, 1, 1), -3);
        due("both", x.proposes(0, 1, 0, 1, 1), -3);
        due("neither", x.proposes(2, 3, 0, 1, 1), 2);
        x.days(2);
        due("the first was won on DAY 2, the other lost", x.count(3), 12);
        due("it is open no more", x.proposes(0, 1, 0, 1, 1), 1);

        sentence("TRUST of who PROPOSES in his SIDE is 4 or less");
        for (int v = 0; v <= 9; v++) {
            due("BELIEF " + v + ", SIDE 1", in("p04;p30;b00" + v + ";").proposes(0, 1, 0, 1, 1), v <= 4 ? 1 : -3);
            due("BELIEF " + v + ", SIDE 0", in("p04;p30;b00" + v + ";").proposes(0, 1, 0, 0, 1), v >= 5 ? 1 : -3);
        }
        due("in letters 4", tell(new LostBets(), "p04;p30;b004;a01011;"), 4);
        due("in letters 5", tell(new LostBets(), "p04;p30;b005;a01011;"), -2013);

        sentence("and the other TAKES it: who PROPOSES is whom it WISHES, or its own TRUST in that SIDE is what it ASKS or more");
        String town = "p30;p04;p30;b000;b104;";
        due("one less than it ASKS", in(town).proposes(0, 1, 0, 1, 1), -3);
        due("what it ASKS", in(town + "b105;").proposes(0, 1, 0, 1, 1), 1);
        due("more", in(town + "b106;").proposes(0, 1, 0, 1, 1), 1);
        due("SIDE 0, one less", in(town + "b009;b105;").proposes(0, 1, 0, 0, 1), -3);
        due("SIDE 0, what it ASKS", in(town + "b009;b104;").proposes(0, 1, 0, 0, 1), 1);
        due("whom it WISHES", in(town + "w10;b100;").proposes(0, 1, 0, 1, 1), 1);
        due("it WISHES another", in(town + "w12;").proposes(0, 1, 0, 1, 1), -3);
        due("it WISHES another, but TRUSTS", in(town + "w12;b105;").proposes(0, 1, 0, 1, 1), 1);
        due("who PROPOSES WISHES it", in(town + "w01;").proposes(0, 1, 0, 1, 1), -3);
    }

    private void kinds() {
        sentence("ASKS: SUITOR 5; AUNT 1 more; GIRL FIGURE; GAMBLER 0; RICH FIGURE over 3, cut, more than an AUNT; "
            + "HONEST 3 more than a GAMBLER");
        int[] rich = {6, 6, 6, 7, 7, 7, 8, 8, 8, 9};
        for (int f = 0; f <= 9; f++) {
            int[] asks = {5, 6, f, 0, rich[f], 3};
            for (int kind = 0; kind <= 5; kind++) {
                String one = "KIND " + kind + ", FIGURE " + f;
                String town = "p30;p" + kind + f + ";b000;b10";
                LostBets x = in(town + asks[kind] + ";");
                due(one, x.personOf(1, 5), asks[kind]);
                due(one + " takes what it ASKS", x.proposes(0, 1, 0, 1, 1), 1);
                if (asks[kind] > 0) {
                    due(one + " not one less", in(town + (asks[kind] - 1) + ";").proposes(0, 1, 0, 1, 1), -3);
                }
            }
        }

        sentence("WEEPS (when WED): SUITOR 5; AUNT 3 less; GIRL twice a SUITOR's; GAMBLER 0; RICH 1 more than an AUNT; "
            + "HONEST FIGURE more than a GAMBLER");
        for (int f = 0; f <= 9; f++) {
            int[] weeps = {5, 2, 10, 0, 3, f};
            for (int kind = 0; kind <= 5; kind++) {
                String one = "KIND " + kind + ", FIGURE " + f;
                LostBets x = in("p" + kind + f + ";p30;b000;a01011;");
                due(one, x.personOf(0, 6), weeps[kind]);
                due(one + " not yet", x.personOf(0, 3), 0);
                x.days(1);
                due(one + " when WED", x.personOf(0, 3), weeps[kind]);
                x.days(1);
                due(one + " no more behind it", x.personOf(0, 3), weeps[kind]);
                x = in("p" + kind + f + ";p30;b009;a01001;d01;");
                due(one + " not when it has won", x.personOf(0, 3), 0);
            }
        }

        sentence("LEARNS: SUITOR 1; AUNT 0; GIRL 1 more than a SUITOR; GAMBLER as a SUITOR; RICH 1 more than an AUNT; "
            + "HONEST 2 more than a GAMBLER");
        int[] learns = {1, 0, 2, 1, 1, 3};
        for (int kind = 0; kind <= 5; kind++) {
            for (int f = 0; f <= 9; f += 9) {
                LostBets x = in("p" + kind + f + ";e010;d01;");
                due("KIND " + kind, x.personOf(0, 7), learns[kind]);
                due("BELIEF of KIND " + kind, x.belief(0, 0), Math.min(9, 5 + learns[kind]));
            }
        }
    }

    private void daysGoBy() {
        sentence("A DAY goes by: DAY is 1 more");
        LostBets x = new LostBets();
        x.days(1);
        due("one", x.count(1), 1);
        x.days(60);
        due("60 more", x.count(1), 61);

        sentence("n DAYS go by: how many are WED. -4 1; -6 (60; DAY above 999).");
        x = in(PAIRS + "a01011;a23013;");
        due("two, not those of the DAYS to come", x.days(1), 2);
        due("two", x.days(1), 2);
        due("four", x.days(1), 4);
        due("below", x.days(0), -4);
        due("above", x.days(61), -6);
        due("the greatest", x.days(60), 4);

        sentence("their DAYS are 1 less; are these 0");
        x = in(PAIRS + "a01019;a23011;");
        x.days(1);
        due("1 less", x.wagerOf(0, 4), 8);
        due("the other is 0", x.count(2), 1);
        x.days(7);
        due("1 yet", x.wagerOf(0, 4), 1);
        due("0", x.days(1), 4);
        due("none is open", x.count(2), 0);

        sentence("open WAGERS in their order");
        x = in("p04;p30;p04;p30;p04;p30;b000;b209;b400;a01011;a23001;a45011;");
        due("lost, won, lost on the same DAY", x.days(1), 4);
        due("who is WED", x.count(3), 1 + 2 + 16 + 32);
        due("none is open", x.count(2), 0);

        sentence("if the EVENT happens on this DAY and SIDE is 1, or not and SIDE is 0, who PROPOSED has won: it is open no more");
        String[] won = {"e010;b000;a01011;d01;", "e090;b009;a01001;d01;", "e021;b000;a01011;d01;", "e020;b009;a01001;d01;"};
        for (String town : won) {
            x = in("p04;p25;w10;" + town);
            due("none WED by " + town, x.count(3), 0);
            due("none wept by " + town, x.count(4), 0);
            due("none open by " + town, x.count(2), 0);
            due("both FREE by " + town, x.saddest(2), 3);
        }

        sentence("else both are WED to one another, TEARS of both are more by what they WEEP (99 at most), it is open no more");
        String[] lost = {"e010;b009;a01001;d01;", "e090;b000;a01011;d01;", "e021;b009;a01001;d01;", "e020;b000;a01011;d01;"};
        for (String town : lost) {
            x = in("p04;p25;w10;" + town);
            due("WED to one another by " + town, x.personOf(0, 4) * 10 + x.personOf(1, 4), 10);
            due("TEARS of both by " + town, x.personOf(0, 3) * 100 + x.personOf(1, 3), 510);
            due("none open by " + town, x.count(2), 0);
        }
    }

    private void beliefsLearn() {
        sentence("BELIEF in each EVENT goes to 9, if it happens on this DAY, else to 0, by as much as one LEARNS, no farther");
        int[] learns = {1, 0, 2, 1, 1, 3};
        for (int kind = 0; kind <= 5; kind++) {
            for (int v = 0; v <= 9; v++) {
                LostBets x = in("p" + kind + "0;e010;e490;b00" + v + ";b04" + v + ";d01;");
                due("KIND " + kind + " from " + v + " up", x.belief(0, 0), Math.min(9, v + learns[kind]));
                due("KIND " + kind + " from " + v + " down", x.belief(0, 4), Math.max(0, v - learns[kind]));
            }
        }
        // on DAY 6 events 0, 1 and 4 happen, on DAY 7 none
        LostBets x = in("p04;d05;b005;b015;b025;b035;b045;");
        x.days(1);
        int[] six = {6, 6, 4, 4, 6};
        for (int e = 0; e < 5; e++) due("EVENT " + e + " on DAY 6", x.belief(0, e), six[e]);
        x.days(1);
        for (int e = 0; e < 5; e++) due("EVENT " + e + " on DAY 7", x.belief(0, e), six[e] - 1);
        x = in("p04;p30;p50;b000;b200;a01011;d01;");
        due("the WED learn, too", x.belief(1, 0), 4);
    }

    // ---- I. letters

    private void statements() {
        sentence("A TOWN is told in letters, one by one (96 at most)");
        LostBets x = new LostBets();
        for (int i = 1; i <= 96; i++) due("letters", x.feed("d01;".charAt((i - 1) % 4)), i);
        due("above", x.feed(';'), -6);
        due("24 STATEMENTS", x.town(), 24);
        due("DAY", x.count(1), 24);
        due("again one", x.feed('d'), 1);

        sentence("STATEMENTS, each with \";\" behind");
        due("without", tell(new LostBets(), "d01"), -1003);
        due("the second without", tell(new LostBets(), "d01;d01"), -1007);
        due("with two", tell(new LostBets(), "d01;;"), -1004);
        due("with it", tell(new LostBets(), "d01;d01;"), 2);

        sentence("\"p\" KIND, FIGURE (a digit each): one of PEOPLE more");
        x = in("p00;p59;");
        due("the least", x.personOf(0, 0) * 10 + x.personOf(0, 1), 0);
        due("the greatest", x.personOf(1, 0) * 10 + x.personOf(1, 1), 59);
        due("KIND above", tell(x, "p60;"), -2000);

        sentence("\"w\" one, whom it WISHES (a digit each; 0 .. 6)");
        due("the least, the greatest", tell(x, "w10;w06;"), 2);
        due("WISHES", x.personOf(0, 2) * 10 + x.personOf(1, 2), 60);
        due("above", tell(x, "w07;"), -2000);
        due("nobody", tell(x, "w20;"), -2000);

        sentence("\"e\" an EVENT, EVERY, ON (a digit each)");
        due("the least, the greatest", tell(x, "e010;e498;"), 2);
        due("EVENTS", x.eventOf(0, 0) * 1000 + x.eventOf(0, 1) * 100 + x.eventOf(4, 0) * 10 + x.eventOf(4, 1), 1098);
        due("EVENT above", tell(x, "e510;"), -2000);
        due("EVERY below", tell(x, "e000;"), -2000);
        due("ON above", tell(x, "e019;"), -2000);

        sentence("\"b\" one, an EVENT, BELIEF (a digit each)");
        due("the least, the greatest", tell(x, "b000;b149;"), 2);
        due("BELIEFS", x.belief(0, 0) * 10 + x.belief(1, 4), 9);
        due("nobody", tell(x, "b200;"), -2000);
        due("EVENT above", tell(x, "b050;"), -2000);

        sentence("\"a\" one who PROPOSES, another one, an EVENT, a SIDE, DAYS (a digit each)");
        String town = "p30;p30;p30;p30;b000;b209;";
        x = in(town + "a01011;a23009;");
        int[] told = {0, 1, 0, 1, 1, 2, 3, 0, 0, 9};
        for (int i = 0; i < 10; i++) due("the WAGER's " + i, x.wagerOf(i / 5, i % 5), told[i]);
        due("EVENT above", tell(new LostBets(), town + "a01511;"), -2026);
        due("SIDE above", tell(new LostBets(), town + "a01021;"), -2026);
        due("DAYS below", tell(new LostBets(), town + "a01010;"), -2026);

        sentence("\"d\" DAYS (2 digits, 1 .. 60): they go by");
        x = in("d01;");
        due("the least", x.count(1), 1);
        due("the greatest", tell(x, "d60;"), 1);
        due("they go by", x.count(1), 61);
        due("below", tell(x, "d00;"), -2000);
        due("above", tell(x, "d61;"), -2000);
        due("above", tell(x, "d99;"), -2000);
        due("one digit", tell(x, "d1;"), -1002);
        due("three digits", tell(x, "d010;"), -1003);
    }

    private void faultsInLetters() {
        sentence("At least one STATEMENT.");
        due("none", tell(new LostBets(), ""), -1000);
        due("an empty one", tell(new LostBets(), ";"), -1000);
        due("one", tell(new LostBets(), "d01;"), 1);

        sentence("kind 1 the place of the first letter with which no TOWN can go on (the end, if something lacks): -1000 less the place");
        String town = "p04;p30;w01;e090;b000;a01011;d01;";
        int whole = 0;
        for (int length = 0; length <= town.length(); length++) {
            boolean isWhole = length > 0 && town.charAt(length - 1) == ';';
            if (isWhole) whole++;
            String part = town.substring(0, length);
            due("'" + part + "'", tell(new LostBets(), part), isWhole ? whole : -1000 - length);
        }
        for (int place = 0; place < town.length(); place++) {
            char was = town.charAt(place);
            StringBuilder wrongs = new StringBuilder("/:~ P\u0000\u00ff");
            wrongs.append(was == ';' ? "0" : ";");
            if (!Character.isDigit(was)) wrongs.append("9");
            else wrongs.append("d");
            for (char wrong : wrongs.toString().toCharArray()) {
                String text = town.substring(0, place) + wrong + town.substring(place + 1);
                due("'" + text + "'", tell(new LostBets(), text), -1000 - place);
            }
        }
        String days = "d01;".repeat(23);
        due("95 letters, one lacks", tell(new LostBets(), days + "d01"), -1095);
        due("the last of 96 letters", tell(new LostBets(), days + "d01d"), -1095);
        due("96 letters, some lack", tell(new LostBets(), days + "a010"), -1096);
        LostBets x = new LostBets();
        due("the second wrong one does not count", tell(x, "p0x;y"), -1002);
        due("kind 1 goes first, also behind one of kind 2", tell(x, "p60;b000;p0"), -1011);

        sentence("The letters, which are no more then (with a FAULT neither), are a TOWN: how many STATEMENTS; "
            + "the FAULT (nothing is counted).");
        String[] texts = {"p04;p30", "p04;p60;", "p04;p30;"};
        int[] answers = {-1007, -2004, 2};
        for (int i = 0; i < 3; i++) {
            due("'" + texts[i] + "'", tell(x, texts[i]), answers[i]);
            due("letters behind '" + texts[i] + "'", x.count(5), 0);
            due("not even the letters of '" + texts[i] + "' go on", x.town(), -1000);
        }
        for (int no = 11; no <= 16; no++) due("nothing is counted", x.count(no), 0);
    }

    private void faultsInSense() {
        sentence("the place of the first letter of the first STATEMENT that, behind all ahead of it in the text, is not as it must be");
        due("of two, the first", tell(new LostBets(), "p04;b100;p60;"), -2004);
        due("who comes behind is not there yet", tell(new LostBets(), "b000;p04;"), -2000);
        due("who came ahead is there", tell(new LostBets(), "p04;b000;"), 2);
        due("a BELIEF told behind", tell(new LostBets(), "p04;p30;a01011;b000;"), -2008);
        due("a BELIEF told ahead", tell(new LostBets(), "p04;p30;b000;a01011;"), 4);
        due("in a WAGER", tell(new LostBets(), "p04;p30;b000;a01012;a01012;"), -2020);
        due("won on DAY 2", tell(new LostBets(), "p04;p30;b000;a01012;d02;a01012;"), 6);
        due("lost on DAY 1", tell(new LostBets(), "p04;p30;b000;a01011;d02;b000;a01012;"), -2029);

        sentence("(a number out of range, nobody there, one twice, a WAGER that can not be, DAY above 999, no room): -2000 less the place");
        String two = "p04;p30;b000;";
        String[] wrongs = {
            "p60;", "p90;", "w07;", "w09;", "e500;", "e900;", "e200;", "e219;", "b050;", "b090;", "a01511;", "a01021;",
            "a01091;", "a01010;", "d00;", "d61;", "d99;",
            "w20;", "w90;", "b200;", "b900;", "a02011;", "a20011;", "a09011;",
            "a00011;", "a11011;",
            "b005;a01011;", "p04;b204;a02011;", "a01001;", "a01011;a10001;",
        };
        int[] places = new int[wrongs.length];
        places[26] = 5;
        places[27] = 9;
        places[29] = 7;
        for (int i = 0; i < wrongs.length; i++) {
            due("'" + wrongs[i] + "'", tell(new LostBets(), two + wrongs[i]), -2013 - places[i]);
        }
        due("the eighth", tell(new LostBets(), "p00;".repeat(8)), -2028);
        due("the seventh", tell(new LostBets(), "p00;".repeat(7)), 7);
        LostBets x = onDay(938, "d01;");
        due("DAY 1000", tell(x, "d01;d60;"), -2004);
        due("DAY 1000", tell(x, "d60;d01;"), -2004);
        due("DAY 999", tell(x, "d60;"), 1);

        sentence("Without FAULT all of it comes, with one nothing.");
        String all = "p36;w01;e198;b042;b140;a10419;d05;";
        String[] last = {"", "x", "p60;"};
        for (int i = 0; i < 3; i++) {
            boolean comes = i == 0;
            x = in("p04;");
            due("'" + all + last[i] + "'", tell(x, all + last[i]), comes ? 7 : -1000 * i - all.length());
            due("PEOPLE", x.count(0), comes ? 2 : 1);
            due("WISHES", x.personOf(0, 2), comes ? 1 : 0);
            due("EVENT", x.eventOf(1, 0) * 10 + x.eventOf(1, 1), comes ? 98 : 30);
            due("BELIEF", x.belief(0, 4), comes ? 0 : 5);
            due("WAGERS", x.count(2), comes ? 1 : 0);
            due("DAYS yet", x.wagerOf(0, 4), comes ? 4 : -1);
            due("DAY", x.count(1), comes ? 5 : 0);
        }
    }

    // ---- II. In mind

    private void inMind() {
        sentence("In mind, n DAYS on (0 .. 60; DAY may pass 999 there): to whom one is WED (-9); TEARS; "
            + "BELIEF of one in an EVENT; how many are WED.");
        LostBets x = in("p04;p25;w10;p58;p30;b000;b107;b200;a01013;a23012;");
        int[] wed = {-9, -9, -9, 1, 1};
        int[] beliefs = {7, 5, 7, 5, 7};
        for (int n = 0; n <= 4; n++) {
            due("to whom, " + n, x.personIn(0, n, 0), wed[n]);
            due("TEARS, " + n, x.personIn(0, n, 1), n < 3 ? 0 : 5);
            due("TEARS, " + n, x.personIn(1, n, 1), n < 3 ? 0 : 10);
            due("who wins is not WED, " + n, x.personIn(2, n, 0), -9);
            due("who wins weeps not, " + n, x.personIn(2, n, 1), 0);
            due("BELIEF, " + n, x.beliefIn(1, 0, n), beliefs[n]);
            due("how many, " + n, x.wedIn(n), n < 3 ? 0 : 2);
        }
        due("to whom, 60", x.personIn(1, 60, 0), 0);
        due("BELIEF, 60", x.beliefIn(2, 0, 60), 3);
        due("how many, 60", x.wedIn(60), 2);
        LostBets odd = in("p04;e032;");
        int[] from = {5, 6, 5, 4, 5};
        for (int n = 0; n <= 4; n++) due("BELIEF with ON, " + n, odd.beliefIn(0, 0, n), from[n]);
        due("61", x.personIn(0, 61, 0), -6);
        due("61", x.beliefIn(0, 0, 61), -6);
        due("61", x.wedIn(61), -6);
        due("below", x.personIn(0, -1, 0), -4);
        due("below", x.beliefIn(0, 0, -1), -4);
        due("below", x.wedIn(-1), -4);
        due("it was in mind alone", x.count(1) * 10 + x.wagerOf(0, 4), 3);
        x.days(3);
        due("WED now", x.personIn(0, 0, 0), 1);
        due("no more TEARS", x.personIn(1, 60, 1), 10);

        sentence("HAPPENS: how often an EVENT does on the next n DAYS.");
        x = in("e010;e190;e298;");
        due("each DAY", x.happens(0, 60), 60);
        due("each DAY", x.happens(0, 1), 1);
        due("none", x.happens(0, 0), 0);
        due("today does not count", x.happens(1, 8), 0);
        due("the last DAY does", x.happens(1, 9), 1);
        due("60 DAYS", x.happens(1, 60), 6);
        due("DAYS 1, 10 .. 55", x.happens(2, 60), 7);
        x.days(9);
        due("from DAY 9", x.happens(1, 8), 0);
        due("from DAY 9", x.happens(2, 1), 1);
    }

    private void passing999() {
        sentence("DAY may pass 999 there");
        LostBets x = onDay(998, "p04;p30;p04;p30;b000;e490;");
        due("a WAGER may come out on DAY 1001", x.proposes(0, 1, 0, 1, 3), 1);
        due("WED", x.personIn(0, 2, 0) * 100 + x.personIn(0, 3, 0), -899);
        due("TEARS", x.personIn(0, 60, 1), 5);
        due("how many", x.wedIn(3), 2);
        due("WED WHEN", x.wedWhen(1), 3);
        due("FIRST", x.wedWhen(-1), 0);
        due("BELIEF on DAY 1000", x.beliefIn(0, 0, 2), 1);
        due("HOPE", x.hope(0, 0, 2), 1);
        due("HAPPENS", x.happens(0, 60), 30);
        due("LOST", x.fair(1), 1);
        due("LEFT", x.left(0), 3);
        due("CHASTE", x.left(1), 57);
        due("HEDGE", x.hedge(4, 30), 1);
        due("HEDGE", x.hedge(4, 2), 0);
        row(x, 0, 0, 0, 5);
        due("SIDES", x.uponWhat(0, 1), 2);
        due("KINDS", x.whatKind(0, 0), 1);
        due("likely", x.sure(0, 3, 4, 0) * 10 + x.sure(0, 3, 4, 1), 34);
        due("in all summers together", x.lots(20, 3, 0) % 2, 0);
        due("to DAY 999", x.days(1), 0);
        due("no farther", x.days(1), -6);
        // event 4 happens on DAY 999, and next on DAY 1008
        for (int e = 0; e < 4; e++) x.fixes(e, 9, 0);
        for (int e = 0; e < 5; e++) x.believes(2, e, 9);
        due("BET on DAY 1008", x.bet(2, 3), 9);
        due("HAPPENS on DAY 1008", x.happens(4, 8) * 10 + x.happens(4, 9), 1);
        due("event 0 happens on DAY 999 and not on 1000", x.two(2, 3, 0), 0);
        due("FIX: behind DAY 1001 0 is WED anyway", x.fix(30), -9);
        due("DAY", x.count(1), 999);
    }

    private void wedWhen() {
        sentence("WED WHEN: behind how many DAYS (0 .. 60) one is WED first; -9;");
        LostBets x = in(PAIRS + "a01019;a23011;a45012;");
        due("the most DAYS", x.wedWhen(0), 9);
        due("the other", x.wedWhen(1), 9);
        due("the fewest", x.wedWhen(2), 1);
        due("who will win", x.wedWhen(4), -9);
        x.days(1);
        due("WED now", x.wedWhen(3), 0);
        due("one DAY less", x.wedWhen(0), 8);
        due("in no WAGER", in("p04;").wedWhen(0), -9);

        sentence("FIRST: who of those not WED now, of several the least; -9.");
        x = in(PAIRS + "a45011;a01013;a23013;");
        due("the soonest", x.wedWhen(-1), 4);
        x.days(1);
        due("not those WED now; of several the least", x.wedWhen(-1), 0);
        x.days(2);
        due("all are", x.wedWhen(-1), -9);
        x = in(PAIRS + "b504;w45;a32009;a54019;");
        due("who PROPOSED is no matter", x.wedWhen(-1), 4);
        due("who will win is not", in(PAIRS + "a01012;").wedWhen(-1), -9);
        due("nobody", new LostBets().wedWhen(-1), -9);
    }

    private void bet() {
        sentence("BET: for one with another one the WAGER that can be now by which both are WED soonest (100 times the EVENT, "
            + "10 times the SIDE, and DAYS), of several the least number; -9.");
        String nines = "e090;e190;e290;e390;e490;";
        due("SIDE 0, when the EVENTS happen: DAY 9, the least EVENT", in("p04;p30;" + nines).bet(0, 1), 9);
        due("the soonest, not the least EVENT", in("p04;p30;" + nines + "e498;").bet(0, 1), 401);
        due("of two on DAY 1 the least", in("p04;p30;" + nines + "e498;e398;").bet(0, 1), 301);
        due("SIDE 1 is lost on the first DAY", in("p04;p30;" + nines + "b044;").bet(0, 1), 411);
        due("SIDE 0 of a less EVENT, too", in("p04;p30;" + nines + "b044;e298;").bet(0, 1), 201);
        String disbelief = "b000;b010;b020;b030;b040;";
        due("SIDE 1 is never lost", in("p04;p30;" + DAILY + disbelief).bet(0, 1), -9);
        due("SIDE 1 is lost on DAY 2", in("p04;p30;" + DAILY + disbelief + "e098;").bet(0, 1), 12);
        due("TRUST 5", in("p04;p30;" + DAILY + disbelief + "b004;").bet(0, 1), -9);
        due("TRUST 4", in("p04;p30;" + DAILY + disbelief + "b005;").bet(0, 1), 1);
        due("it does not TAKE", in("p04;p04;" + DAILY).bet(0, 1), -9);
        due("it TAKES what it ASKS", in("p04;p04;" + DAILY + "b144;").bet(0, 1), 401);
        due("whom it WISHES", in("p04;p04;" + DAILY + "w10;").bet(0, 1), 1);
        LostBets x = in("p30;p30;p30;p30;b000;a01011;");
        due("in a WAGER", x.bet(0, 2), -9);
        due("in a WAGER", x.bet(2, 1), -9);
        x.days(1);
        due("WED", x.bet(0, 2), -9);
        due("WED", x.bet(2, 1), -9);
        due("neither", x.bet(2, 3) >= 0 ? 1 : 0, 1);
        due("one twice", x.bet(2, 2), -1);
    }

    private void takersAndWooers() {
        sentence("TAKERS: PEOPLE (bits) who would TAKE a told EVENT, SIDE from one (WAGERS, WEDDINGS no matter; itself not).");
        LostBets x = in("p30;p30;p04;p04;b204;b305;p30;p30;p30;b000;b400;a01019;a45011;d01;b204;b305;");
        due("7 PEOPLE; itself not, in a WAGER, WED", x.takers(0, 0, 1), 2 + 8 + 16 + 32 + 64);
        due("who is WED asks", x.takers(4, 0, 1), 1 + 2 + 8 + 32 + 64);
        due("the last", x.takers(6, 0, 1), 1 + 2 + 8 + 16 + 32);
        due("the other SIDE", x.takers(6, 0, 0), 1 + 2 + 4 + 16 + 32);
        x.wishes(2, 6);
        due("whom one WISHES", x.takers(6, 0, 1), 1 + 2 + 4 + 8 + 16 + 32);
        due("itself not, if it WISHES itself", in("p30;").takers(0, 0, 1), 0);
        x.believes(0, 0, 9);
        due("who asks may TRUST in it", x.takers(0, 0, 1), 2 + 8 + 16 + 32 + 64);

        sentence("WOOERS: PEOPLE (bits) who have a BET with one.");
        x = in("p30;p30;p30;p30;p30;p30;p30;");
        due("all others", x.wooers(0), 126);
        due("all others", x.wooers(6), 63);
        x.believes(1, 0, 0);
        x.proposes(1, 2, 0, 1, 1);
        due("not those in a WAGER", x.wooers(0), 126 - 6);
        due("it is in a WAGER", x.wooers(2), 0);
        x.days(1);
        due("not the WED", x.wooers(0), 126 - 6);
        due("it is WED", x.wooers(1), 0);
        due("itself not", in("p30;").wooers(0), 0);
    }

    private void match() {
        sentence("MATCH: of those not WED and in no WAGER, two by two (each once at most; a BET one way or the other), "
            + "the most twos: how many; with whom one is by the first such (by PEOPLE the least one, alone last); -9.");
        LostBets x = in("p30;p30;p30;p30;p30;p30;p30;");
        due("each once at most", x.match(-1), 3);
        int[] with = {1, 0, 3, 2, 5, 4, -9};
        for (int p = 0; p < 7; p++) due("with whom " + p + " is", x.match(p), with[p]);
        x.believes(0, 0, 0);
        x.proposes(0, 3, 0, 1, 1);
        due("not those in a WAGER", x.match(-1), 2);
        due("not those in a WAGER", x.match(0), -9);
        due("not those in a WAGER", x.match(3), -9);
        due("the least of the others", x.match(1), 2);
        x.days(1);
        due("not the WED", x.match(-1), 2);
        due("not the WED", x.match(0), -9);
        due("none", new LostBets().match(-1), 0);
        due("one alone", in("p30;").match(-1), 0);
        due("one alone", in("p30;").match(0), -9);
        due("one way", in("p04;p30;").match(1), 0);
        due("the other way", in("p30;p04;").match(0), 1);
        due("neither", in("p04;p04;").match(0), -9);
        // suitors do not take one another's bets: 1 alone can be with 0, 3 with all
        x = in("p04;p04;p04;p30;w10;");
        due("two twos", x.match(-1), 2);
        int[] first = {1, 0, 3, 2};
        for (int p = 0; p < 4; p++) due("with whom " + p + " is", x.match(p), first[p]);
        // 0 and 1 have no BET with one another, though 2 and 3 would be left to one another
        x = in("p04;p04;p30;p30;");
        due("two twos", x.match(-1), 2);
        due("with whom 0 and 1 are", x.match(0) * 10 + x.match(1), 23);
        // 0 could be alone or with 3, as many come: with 3
        x = in("p04;p04;p04;p30;");
        due("alone last", x.match(0), 3);
        due("alone", x.match(1) * 10 + x.match(2), -99);
    }

    private void fix() {
        sentence("FIX: the EVENT and ON (10 times the EVENT and the ON, 0 .. 8) with which most are WED behind n DAYS (0 .. 30), "
            + "more than else, of several the least; -9.");
        LostBets x = in("p04;p30;e490;b049;a01401;");
        due("ON 8", x.fix(1), 48);
        due("30 DAYS", x.fix(30), 48);
        due("no DAYS", x.fix(0), -9);
        due("31 DAYS", x.fix(31), -6);
        due("below", x.fix(-1), -4);
        due("EVENTS stay", x.eventOf(4, 0) * 10 + x.eventOf(4, 1), 90);
        x = in("p04;p30;e098;b009;a01001;b000;");
        due("lost as it is: none does more", x.fix(30), -9);
        x = in("p04;p30;e091;b009;a01008;");
        due("ON 1: on DAY 8", x.fix(30), -9);
        x = in("p04;p30;e092;b009;a01009;");
        due("ON 0", x.fix(9), 0);
        due("a DAY too few", x.fix(8), -9);
        due("of ON 1, 3, 5, 7 the least", in("p04;p30;b000;a01012;").fix(2), 1);
        x = in(PAIRS + "b210;b410;e120;a01012;a23112;a45112;");
        due("two by EVENT 1, one by EVENT 0", x.fix(2), 11);
        x = in(PAIRS + "e120;b210;a01012;a23112;");
        due("one by either: the least", x.fix(2), 1);
        due("one EVENT alone", in(PAIRS + "e021;e121;b210;a01011;a23111;").fix(1), 0);
        x = in("p04;p30;b000;");
        x.proposes(0, 1, 0, 1, 2);
        due("as it is now", x.fix(2), 1);
        x = in(PAIRS + "a01011;a23012;");
        due("one is WED anyway, by ON 1 the other instead", x.fix(30), -9);
        due("nobody", new LostBets().fix(30), -9);
    }

    private void preach() {
        sentence("PREACH: the one whose BELIEF in a told EVENT, 9 less what it is now, lets most others have a BET with it, "
            + "more than now, of several the least; -9.");
        // who BELIEVES 5 or more dares to bet on SIDE 0, which is lost; a suitor takes it who BELIEVES 4 or less
        due("5 becomes 4: of several the least", in("p04;p04;p04;" + DAILY).preach(0), 0);
        due("the told EVENT", in("p49;p04;p30;" + DAILY + "b009;b104;b204;").preach(1), 1);
        due("9 becomes 0, what a rich one asks", in("p49;p30;" + DAILY + "b009;b109;").preach(0), 0);
        due("8 becomes 1, too much", in("p49;p30;" + DAILY + "b008;b109;").preach(0), -9);
        due("as many as now", in("p30;p30;" + DAILY).preach(0), -9);
        due("fewer than now", in("p04;p30;" + DAILY + "b003;").preach(0), -9);
        due("one alone has no others", in("p30;" + DAILY).preach(0), -9);
        due("nobody", new LostBets().preach(4), -9);
        // by their change 0 and 1 have two more than none, and 2 has two more than 3, who woos it by EVENT 1
        LostBets x = in("p49;p49;p04;p49;" + DAILY + "b009;b014;b109;b114;b209;b210;b300;b319;");
        due("none woos 0", x.wooers(0), 0);
        due("3 woos 2", x.wooers(2), 8);
        due("most others, not most more", x.preach(0), 2);
        due("BELIEF stays", x.belief(2, 0), 9);
        x = in("p49;p30;" + DAILY + "b009;b104;");
        due("1 does not dare", x.preach(0), -9);
        x.believes(1, 0, 9);
        due("as it is now", x.preach(0), 0);
    }

    private void fairAndLost() {
        sentence("FAIR: of open WAGERS those (bits by order) in which TRUST of both in the SIDE is alike.");
        String town = "p04;p30;p04;p30;p04;p30;b000;b100;b209;b309;b400;b501;a45019;a23009;a01019;";
        LostBets x = in(town);
        due("the second and the third", x.fair(0), 6);
        x.believes(4, 0, 1);
        due("all three", x.fair(0), 7);
        due("none is open", in("p04;p30;").fair(0), 0);

        sentence("LOST: open WAGERS (bits) that will be lost.");
        x = in(town);
        due("on DAY 9 EVENT 0 does not happen", x.fair(1), 5);
        x.fixes(0, 9, 0);
        due("on DAY 9 it does", x.fair(1), 2);
        due("none is open", in("p04;p30;").fair(1), 0);
    }

    private void hedge() {
        sentence("HEDGE: the fewest open WAGERS (bits, of several the least) to be called off so that TEARS of all behind n DAYS "
            + "(0 .. 30) are v (0 .. 99) or less; -9.");
        // three suitors weep by 5 each on DAYS 3, 1 and 2
        LostBets x = in("p04;p30;p04;p30;p04;p30;b000;b200;b409;a01013;a23011;a45002;");
        due("15 or less: none", x.hedge(15, 30), 0);
        due("14: one, the least", x.hedge(14, 30), 1);
        due("10: one", x.hedge(10, 30), 1);
        due("9: two, the least", x.hedge(9, 30), 3);
        due("5: two", x.hedge(5, 30), 3);
        due("4: three", x.hedge(4, 30), 7);
        due("0: three", x.hedge(0, 30), 7);
        due("0 behind 2 DAYS", x.hedge(0, 2), 6);
        due("0 behind 1 DAY", x.hedge(0, 1), 2);
        due("0 behind no DAYS", x.hedge(0, 0), 0);
        due("v 99", x.hedge(99, 30), 0);
        due("v 100", x.hedge(100, 30), -6);
        due("v below", x.hedge(-1, 30), -4);
        due("31 DAYS", x.hedge(99, 31), -6);
        due("n below", x.hedge(99, -1), -4);
        x.days(3);
        due("TEARS that are there", x.hedge(14, 0), -9);
        due("TEARS that are there", x.hedge(15, 0), 0);
        x = in("p04;p30;p20;p30;b000;b200;a01011;a23011;");
        due("one that helps, not the least", x.hedge(5, 30), 2);
        due("either one", x.hedge(10, 30), 1);
    }

    private void uponWhat() {
        sentence("UPON WHAT: a ROW tells TEARS of one behind 0, 1, .. DAYS: EVENTS (bits) of its open WAGER "
            + "(SIDE, DAYS as they are) by which all of it is so; SIDES (bits; EVENT as it is); -9 it is in none.");
        LostBets x = in("p04;p30;p04;b000;a01012;");
        due("an empty ROW, EVENTS", x.uponWhat(0, 0), 31);
        due("an empty ROW, SIDES", x.uponWhat(0, 1), 3);
        row(x, 0, 0);
        due("behind 0 and 1 DAYS all is so", x.uponWhat(0, 0), 31);
        row(x, 0, 0, 5);
        due("lost on DAY 2", x.uponWhat(0, 0), 30);
        due("SIDE 0 is", x.uponWhat(0, 1), 1);
        row(x, 0, 5);
        due("not on DAY 1", x.uponWhat(0, 0), 0);
        due("not on DAY 1", x.uponWhat(0, 1), 0);
        row(x, 5);
        due("not today", x.uponWhat(0, 0), 0);
        row(x, 0, 0, 0);
        due("won on DAY 2", x.uponWhat(0, 0), 1);
        due("SIDE 1 is", x.uponWhat(0, 1), 2);
        row(x, 0, 0, 5, 5, 5, 5, 5, 5, 5, 5, 5, 5);
        due("12 numbers", x.uponWhat(0, 0), 30);
        row(x, 0, 0, 5, 5, 5, 5, 5, 5, 5, 5, 5, 0);
        due("the last of 12 is not so", x.uponWhat(0, 0), 0);
        row(x, 0, 0, 0);
        due("the other in it", x.uponWhat(1, 0), 31);
        due("in none", x.uponWhat(2, 0), -9);
        due("in none", x.uponWhat(2, 1), -9);
        due("the ROW stays", x.count(6), 3);
        due("the WAGER stays", x.wagerOf(0, 2) * 10 + x.wagerOf(0, 3), 1);
        x.fixes(0, 2, 1);
        x.days(2);
        due("WED now: in none", x.uponWhat(0, 0), -9);
    }

    private void whatKind() {
        sentence("WHAT KIND: a ROW likewise: KINDS (bits) of one by which all of it is so; FIGURES (bits 0 .. 9).");
        LostBets x = in("p09;p59;w10;b000;a01011;");
        due("an empty ROW", x.whatKind(0, 0), 63);
        due("an empty ROW", x.whatKind(0, 1), 1023);
        row(x, 0);
        due("behind 0 DAYS", x.whatKind(0, 0), 63);
        int[] weeps = {5, 2, 10, 0, 3};
        for (int kind = 0; kind <= 4; kind++) {
            row(x, 0, weeps[kind]);
            due("wept by " + weeps[kind], x.whatKind(0, 0), 1 << kind);
        }
        row(x, 0, 9);
        due("an honest one with 9", x.whatKind(0, 0), 32);
        due("as a suitor it weeps by 5 alone", x.whatKind(0, 1), 0);
        due("the greatest FIGURE", x.whatKind(1, 1), 512);
        row(x, 0, 0);
        due("the least FIGURE", x.whatKind(1, 1), 1);
        row(x, 0, 5);
        due("any FIGURE of a suitor", x.whatKind(0, 1), 1023);
        row(x, 0, 5, 5, 5, 5, 5, 5, 5, 5, 5, 5, 6);
        due("the last of 12 is not so", x.whatKind(0, 1), 0);
        row(x, 1);
        due("not so today", x.whatKind(0, 0), 0);
        x.days(1);
        row(x, 5, 5);
        due("TEARS that are there stay, whatever one is", x.whatKind(0, 0), 63);
        due("the ROW stays", x.count(6), 2);
        due("KIND and FIGURE stay", x.personOf(0, 0) * 10 + x.personOf(0, 1), 9);
        due("TEARS stay", x.personOf(0, 6), 5);
    }

    private void two() {
        sentence("TWO in no WAGER, each believes (1: BELIEF in a told EVENT 9) or not (0: 0) now: each has 5, if a WAGER on it "
            + "(SIDE 1, in 1 DAY) by the first to the second can be then and will be lost, 2 less for believing: "
            + "the first pair (10 the one's and the other's) by which neither has more by another choice alone; -9.");
        due("the second must believe", in("p04;p04;").two(0, 1, 0), 1);
        due("a rich one that asks 9 may believe", in("p04;p49;").two(0, 1, 0), 1);
        due("a gambler need not", in("p04;p30;").two(0, 1, 0), 0);
        due("a girl that asks 0 need not", in("p04;p20;").two(0, 1, 0), 0);
        due("a girl that asks 1 must", in("p04;p21;").two(0, 1, 0), 1);
        due("whom it WISHES: it need not", in("p04;p04;w10;").two(0, 1, 0), 0);
        due("whom the first WISHES is no matter", in("p04;p04;w01;").two(0, 1, 0), 1);
        due("the EVENT happens on the next DAY", in("p04;p04;e021;").two(0, 1, 0), 0);
        due("the EVENT happens today alone", in("p04;p04;e020;").two(0, 1, 0), 1);
        due("every third DAY, on the next", in("p04;p04;e032;").two(0, 1, 0), 0);
        due("every third DAY, on the last", in("p04;p04;e031;").two(0, 1, 0), 1);
        due("a told EVENT", in("p04;p04;e411;").two(0, 1, 4), 0);
        LostBets wishing = in("p04;p04;");
        wishing.wishes(1, 0);
        due("as it is now", wishing.two(0, 1, 0), 0);
        due("the BELIEF of now is no matter", in("p04;p04;b009;b100;").two(0, 1, 0), 1);
        LostBets x = in("p04;p04;p30;p30;b000;a03011;");
        due("the first is in a WAGER", x.two(0, 1, 0), -3);
        due("the second is in a WAGER", x.two(1, 3, 0), -3);
        x.days(1);
        due("the first is WED", x.two(0, 1, 0), -3);
        due("the second is WED", x.two(1, 3, 0), -3);
        due("both are FREE", x.two(1, 2, 1), 0);
        due("BELIEF stays", x.belief(1, 1) * 10 + x.belief(2, 1), 44);
    }

    private void sure() {
        sentence("SURE: on each of n DAYS (0 .. 7), by itself, all EVENTS happen (whatever EVERY, ON) with odds 1 in t (2 .. 20): "
            + "how likely one is WED behind these: a fraction.");
        LostBets x = in("p04;p30;p04;p30;p04;p30;p04;b000;b209;b400;a01017;a23001;a45018;");
        due("on the last of 7 DAYS", x.sure(0, 7, 20, 0) * 100 + x.sure(0, 7, 20, 1), 1920);
        due("on the first DAY, SIDE 0", x.sure(2, 1, 20, 0) * 100 + x.sure(3, 1, 20, 1), 120);
        due("not behind 6 DAYS", x.sure(0, 6, 20, 0) * 100 + x.sure(0, 6, 20, 1), 1);
        due("not behind 7 DAYS, if in 8", x.sure(4, 7, 20, 0) * 100 + x.sure(4, 7, 20, 1), 1);
        due("not behind 0 DAYS", x.sure(2, 0, 2, 0) * 100 + x.sure(2, 0, 2, 1), 1);
        due("t 2", x.sure(0, 7, 2, 0) * 100 + x.sure(0, 7, 2, 1), 102);
        due("t 2, SIDE 0", x.sure(3, 7, 2, 0) * 100 + x.sure(3, 7, 2, 1), 102);
        due("t 3, SIDE 0", x.sure(3, 7, 3, 0) * 100 + x.sure(3, 7, 3, 1), 103);
        due("in no WAGER", x.sure(6, 7, 2, 0) * 100 + x.sure(6, 7, 2, 1), 1);
        x.fixes(0, 1, 0);
        due("whatever EVERY", x.sure(0, 7, 20, 0) * 100 + x.sure(0, 7, 20, 1), 1920);
        x.days(1);
        due("WED now", x.sure(2, 0, 20, 0) * 100 + x.sure(2, 7, 20, 1), 101);
        due("behind 6 DAYS now", x.sure(1, 6, 20, 0) * 100 + x.sure(1, 6, 20, 1), 1920);

        sentence("(Fractions are told in lowest terms; 0 as 0 over 1.)");
        due("0 over 1", x.sure(6, 7, 20, 0) * 100 + x.sure(6, 7, 20, 1), 1);
        x = in("p04;p04;p04;p04;p04;p04;b000;b100;b200;b304;b404;b504;b010;b110;b210;b310;b410;b510;");
        due("12 over 6", x.mean(0, 0) * 100 + x.mean(0, 1), 201);
        due("0 over 6", x.mean(1, 0) * 100 + x.mean(1, 1), 1);
        due("30 over 6", x.mean(2, 0) * 100 + x.mean(2, 1), 501);
        x.believes(0, 0, 2);
        due("14 over 6", x.mean(0, 0) * 100 + x.mean(0, 1), 703);
        x.believes(0, 0, 3);
        due("15 over 6", x.mean(0, 0) * 100 + x.mean(0, 1), 502);
        x.believes(0, 0, 1);
        due("13 over 6", x.mean(0, 0) * 100 + x.mean(0, 1), 1306);
    }

    private void sharesAndJudged() {
        sentence("SHARES: TEARS of all over n (1 .. 9), cut; what is over.");
        // 5 and 9, 10 and 10 and 0 and 0
        LostBets x = in("p04;p59;p20;p20;w10;w32;b000;b200;a01011;a23011;d01;");
        due("34 over 1", x.shares(1, 0) * 10 + x.shares(1, 1), 340);
        due("34 over 9", x.shares(9, 0) * 10 + x.shares(9, 1), 37);
        due("34 over 2", x.shares(2, 0) * 10 + x.shares(2, 1), 170);
        due("34 over 7", x.shares(7, 0) * 10 + x.shares(7, 1), 46);
        x = in(PAIRS + "a01011;a23013;d02;");
        due("not the TEARS of the next DAY", x.shares(1, 0) * 10 + x.shares(9, 1), 55);
        due("over 0", x.shares(0, 0), -4);
        due("over 10", x.shares(10, 0), -6);
        due("nobody", new LostBets().shares(9, 0) * 10 + new LostBets().shares(9, 1), 0);

        sentence("A ROW of numbers (0 .. 99; 12 at most)");
        x = in("p04;");
        due("below", x.row(-1), -4);
        due("above", x.row(100), -6);
        due("the least", x.row(0), 1);
        due("the greatest", x.row(99), 2);
        for (int i = 3; i <= 12; i++) due("more", x.row(50), i);
        due("the thirteenth", x.row(50), -6);
        due("all go", x.clear(), 12);
        due("none is left", x.clear(), 0);
        due("again one", x.row(0), 1);

        sentence("JUDGED: BELIEFS of PEOPLE 0, 1, .. in EVENT 0: the first that is not so (none there, too); -9.");
        x = in("p04;p04;p04;p04;p04;p04;p04;b000;b101;b202;b303;b404;b506;b609;");
        row(x, 0, 1, 2, 3, 4, 6, 9);
        due("all so", x.judge(), -9);
        row(x, 0, 1, 2, 3, 4, 6, 9, 5);
        due("none there", x.judge(), 7);
        row(x, 0, 1, 2, 3, 4, 6, 8);
        due("the last is not", x.judge(), 6);
        row(x, 1, 1, 2, 4);
        due("the first of two", x.judge(), 0);
        row(x, 0, 1);
        due("a ROW that tells of some", x.judge(), -9);
        row(x);
        due("a ROW of none", x.judge(), -9);
        row(x, 0, 99);
        due("no BELIEF can be so", x.judge(), 1);
        x = new LostBets();
        row(x, 0);
        due("nobody is there", x.judge(), 0);

        sentence("JUDGED; -9 (whichever it answers, the ROW has none then).");
        due("behind 0", x.count(6), 0);
        row(x);
        due("of none", x.judge() * 10 + x.count(6), -90);
        x.person(0, 0);
        row(x, 5);
        due("all so", x.judge() * 10 + x.count(6), -90);
    }

    /** DRAWS below 9, by numbers without an end. */
    private static int[] draws(int seed, int many) {
        BigInteger z = BigInteger.valueOf(seed);
        BigInteger wrap = BigInteger.ONE.shiftLeft(32);
        int[] draws = new int[many];
        for (int i = 0; i < many; i++) {
            z = z.multiply(BigInteger.valueOf(1103515245)).add(BigInteger.valueOf(12345)).mod(wrap);
            draws[i] = z.mod(BigInteger.ONE.shiftLeft(31)).divide(BigInteger.valueOf(65536)).intValueExact() % 9;
        }
        return draws;
    }

    private void lots() {
        sentence("LOTS with a seed z: n summers (1 .. 20), each from now: ON of each EVENT, by numbers, a DRAW below 9; "
            + "then 10 DAYS: WED of all together; TEARS of all.");
        int[] seeds = {0, 1, -1, MIN, MAX, 20260919};
        for (int e = 0; e < 5; e++) {
            for (int on = 0; on <= 8; on++) {
                // a WAGER that is lost if the EVENT, every 9, has that ON
                LostBets x = onDay(8 - on, "p04;p30;e" + e + "90;b0" + e + "9;a01" + e + "01;");
                for (int seed : seeds) {
                    int[] draws = draws(seed, 100);
                    int lost = 0;
                    for (int summer = 0; summer < 20; summer++) {
                        if (draws[5 * summer + e] == on) lost++;
                        if (summer == 0) due("1 summer by " + seed, x.lots(1, seed, 0), 2 * lost);
                    }
                    due("WED in 20 summers by " + seed, x.lots(20, seed, 0), 2 * lost);
                    due("TEARS in 20 summers by " + seed, x.lots(20, seed, 1), 5 * lost);
                }
                due("ON stays", x.eventOf(e, 1), 0);
            }
        }
        LostBets x = in("p04;p30;p04;p30;p04;e010;b009;b209;a01009;");
        due("the WAGER of 9 DAYS comes out", x.lots(1, 5, 0) * 10 + x.lots(1, 5, 1), 25);
        due("each from now", x.lots(20, 5, 0), 40);
        x.days(9);
        due("who is WED counts in each", x.lots(20, 5, 0) * 1000 + x.lots(20, 5, 1), 40100);
        due("0 summers", x.lots(0, 5, 0), -4);
        due("21 summers", x.lots(21, 5, 0), -6);
        due("nobody", new LostBets().lots(20, MIN, 1), 0);
        x = in("p04;p30;e090;b009;");
        x.proposes(0, 1, 0, 0, 1);
        due("as it is now", x.lots(1, 1, 0), 2);

        sentence("DRAWS: z becomes z times 1103515245 plus 12345 (an int, wrapping); a DRAW below n is "
            + "(z without its sign's bit, over 65536, cut) modulo n.");
        // z 1 becomes 1103527590, which is 16838 times 65536 and more; 16838 is 8 over a multiple of 9
        due("of 1", draws(1, 1)[0], 8);
        x = in("p04;p30;e090;b009;a01001;");
        due("ON 8, so it happens on DAY 1", x.lots(1, 1, 0), 2);
        // z -1 becomes -1103502900, without its sign's bit 1043980748, 15929 times 65536 and more; 8 over, too
        due("of -1", draws(-1, 1)[0], 8);
        due("ON 8, so it happens on DAY 1", x.lots(1, -1, 0), 2);
    }

    // ---- III.

    private void takenBack() {
        sentence("What proposes(), believes(), fixes(), days() changed can be TAKEN BACK (each that is not refused counts, "
            + "also if all stays as it was), the latest first, 8 at most");
        LostBets x = in("p04;p30;p04;p30;b000;b200;");
        due("none", x.back(), -3);
        x.believes(1, 4, 7);
        x.fixes(4, 9, 8);
        x.proposes(0, 1, 0, 1, 9);
        x.days(3);
        due("four", x.count(7), 4);
        due("days()", x.back() * 100 + x.count(1) * 10 + x.wagerOf(0, 4), 309);
        due("proposes()", x.back() * 10 + x.count(2), 20);
        due("fixes()", x.back() * 100 + x.eventOf(4, 0) * 10 + x.eventOf(4, 1), 160);
        due("believes()", x.back() * 10 + x.belief(1, 4), 5);
        due("none", x.back(), -3);
        due("BELIEF as it is counts", x.believes(1, 4, 5) * 10 + x.count(7), 51);
        due("EVENT as it is counts", x.fixes(4, 6, 0) * 10 + x.count(7), 602);
        due("a refused one does not", x.believes(1, 4, 10) * 10 + x.count(7), -58);
        due("a refused one does not", x.fixes(4, 0, 0) * 10 + x.count(7), -38);
        due("a refused one does not", x.proposes(0, 0, 0, 1, 1) * 10 + x.count(7), -8);
        due("a refused one does not", x.proposes(1, 0, 0, 1, 1) * 10 + x.count(7), -28);
        due("a refused one does not", x.days(61) * 10 + x.count(7), -58);

        sentence("8 at most (older ones no more;");
        x = in("p04;");
        for (int v = 0; v <= 9; v++) x.believes(0, 0, v);
        due("8 of 10", x.count(7), 8);
        for (int v = 8; v >= 1; v--) {
            due("how many can still be", x.back(), v - 1);
            due("the latest first", x.belief(0, 0), v);
        }
        due("older ones no more", x.back(), -3);
        due("older ones no more", x.belief(0, 0), 1);
        for (int i = 0; i < 30; i++) x.days(1);
        due("8 of 30", x.count(7), 8);
        while (x.count(7) > 0) x.back();
        due("DAY", x.count(1), 22);
        x.days(1);
        due("anew", x.back() * 100 + x.count(1), 22);

        sentence("TAKEN BACK: how many can still be. -3 none.");
        x = in("p04;p30;b000;");
        x.proposes(0, 1, 0, 1, 1);
        x.days(1);
        due("WED", x.count(3) * 10 + x.count(4), 35);
        due("one", x.back(), 1);
        due("not WED, no TEARS", x.count(3) * 10 + x.count(4), 0);
        due("none", x.back(), 0);
        due("refused", x.back(), -3);
        due("counted", x.count(13), 1);
    }

    private void noneTakenBack() {
        sentence("person(), wishes(), a TOWN without FAULT, restore(), where they are not refused, leave none");
        LostBets x = in("p04;");
        x.image();
        x.days(1);
        due("image() leaves it", x.count(7) + x.image(), 2);
        due("a refused person()", x.person(6, 0) * 10 + x.count(7), -19);
        due("a refused wishes()", x.wishes(0, 7) * 10 + x.count(7), -9);
        due("a TOWN with FAULT 1", tell(x, "p04") * 10 + x.count(7), -10029);
        due("a TOWN with FAULT 2", tell(x, "p04;p60;") * 10 + x.count(7), -20039);
        due("person()", x.person(0, 0) * 10 + x.count(7), 10);
        due("none", x.back(), -3);
        x.days(1);
        due("wishes(), also if all stays", x.wishes(0, 0) * 10 + x.count(7), 0);
        due("none", x.back(), -3);
        x.days(1);
        due("a TOWN", tell(x, "p04;") * 10 + x.count(7), 10);
        due("none", x.back(), -3);
        x.days(1);
        due("restore()", x.restore() * 10 + x.count(7), 10);
        due("none", x.back(), -3);
        due("DAY", x.count(1), 1);
        LostBets unpictured = in("p04;");
        unpictured.days(1);
        due("a refused restore()", unpictured.restore() * 10 + unpictured.count(7), -29);
    }

    private void whoWishes() {
        sentence("SADDEST: who has most TEARS, of several the least; -9.");
        due("nobody", new LostBets().saddest(0), -9);
        due("all alike", in("p04;p04;").saddest(0), 0);
        due("the last", in("p30;p30;p30;p30;p30;p30;p20;b600;a60011;d01;").saddest(0), 6);
        due("of several the least", in("p30;p04;p04;w21;w12;b100;a12011;d01;").saddest(0), 1);
        due("most, not the first", in("p04;p20;w01;w10;b000;a01011;d01;").saddest(0), 1);

        sentence("WISHED: how many others WISH one.");
        LostBets x = in("p04;p04;p04;p04;p04;p04;p04;w06;w16;w26;w36;w46;w56;");
        due("all others, itself not", x.wished(6), 6);
        due("itself alone", x.wished(0), 0);

        sentence("MUTUAL: how many twos WISH each other.");
        x = in("p04;p04;p04;p04;p04;p04;p04;w01;w10;w23;w32;w46;w64;");
        due("three", x.saddest(1), 3);
        x.wishes(5, 5);
        due("itself is none", x.saddest(1), 3);
        x.wishes(6, 5);
        due("one alone", x.saddest(1), 2);
        due("one who is not there", in("p04;w01;").saddest(1), 0);

        sentence("FREE: PEOPLE (bits) not WED, in no open WAGER.");
        x = in(PAIRS + "p04;a01011;a23012;a45019;");
        due("the seventh", x.saddest(2), 64);
        x.days(1);
        due("0 and 1 are WED", x.saddest(2), 64);
        x.days(1);
        due("2 has won", x.saddest(2), 4 + 8 + 64);
        due("nobody", new LostBets().saddest(2), 0);
    }

    // ---- IV.

    private void beliefsOfAll() {
        sentence("MEAN BELIEF in an EVENT: a fraction (0 over 1 of nobody).");
        for (int e = 0; e < 5; e++) due("nobody", new LostBets().mean(e, 0) * 10 + new LostBets().mean(e, 1), 1);
        LostBets x = in("p04;p04;p04;p04;p04;p04;p04;b009;b109;b209;b309;b409;b509;b609;");
        due("the greatest", x.mean(0, 0) * 10 + x.mean(0, 1), 91);
        x.believes(6, 0, 8);
        due("62 over 7", x.mean(0, 0) * 10 + x.mean(0, 1), 627);
        due("one alone", in("p04;").mean(4, 0) * 10 + in("p04;").mean(4, 1), 51);

        sentence("SCORN: how many BELIEVE 0 or 9 in an EVENT.");
        for (int v = 0; v <= 9; v++) {
            due("BELIEF " + v, in("p04;b04" + v + ";").scorn(4), v == 0 || v == 9 ? 1 : 0);
        }
        due("all", x.believes(6, 0, 0) + x.scorn(0), 8 + 7);
        due("nobody", new LostBets().scorn(0), 0);

        sentence("HOPE: by how much BELIEF of one in an EVENT is more behind n DAYS (may be below 0).");
        x = in("p50;p15;" + DAILY + "e190;b000;b019;");
        due("0 DAYS", x.hope(0, 0, 0), 0);
        due("3 more", x.hope(0, 0, 1), 3);
        due("9 at most", x.hope(0, 0, 60), 9);
        due("below 0", x.hope(0, 1, 1), -3);
        due("all of it", x.hope(0, 1, 8), -9);
        due("it happens on DAY 9", x.hope(0, 1, 9), -6);
        due("an aunt", x.hope(1, 0, 60), 0);
        due("61 DAYS", x.hope(0, 0, 61), 1000000006);
        due("below", x.hope(0, 0, -1), 1000000004);
    }

    private void left() {
        sentence("LEFT: DAYS till the last open WAGER comes out; 0 none.");
        due("none", in(PAIRS).left(0), 0);
        LostBets x = in(PAIRS + "a01019;a23011;a45013;");
        due("the last to come out, not to come", x.left(0), 9);
        x.days(8);
        due("a DAY yet", x.left(0), 1);
        x.days(1);
        due("none", x.left(0), 0);

        sentence("CHASTE: the longest run of the next 60 DAYS in which nobody is WED anew.");
        due("all", in(PAIRS).left(1), 60);
        due("all but the first", in(PAIRS + "a01011;").left(1), 59);
        due("behind DAY 9", in(PAIRS + "a01019;").left(1), 51);
        due("won", in(PAIRS + "a01018;").left(1), 60);
        due("behind the last of three", in(PAIRS + "a01011;a23015;a45017;").left(1), 53);
        due("WED already", in(PAIRS + "a01011;d01;").left(1), 60);
        due("nobody", new LostBets().left(1), 60);

        sentence("ODD: EVENTS (bits) that happen today.");
        x = in("e010;e121;e222;e398;e490;");
        due("on DAY 0", x.left(2), 1 + 4 + 16);
        x.days(1);
        due("on DAY 1", x.left(2), 1 + 2 + 8);
        due("none", in("e021;e121;e221;e321;e421;").left(2), 0);
        due("the last alone", in("e021;e121;e221;e321;").left(2), 16);
        due("on DAY 999", onDay(999, "e090;e191;e298;e310;e420;").left(2), 1 + 8);

        sentence("WIVES: WED twos who WISHED each other.");
        x = in("p04;p30;p04;p30;p04;p30;b000;b200;b400;w01;w10;w23;w45;w54;a01011;a23011;d01;");
        due("not one alone, not those not WED", x.left(3), 1);
        x.wishes(3, 2);
        due("two", x.left(3), 2);
        x.wishes(1, 3);
        due("one", x.left(3), 1);
        x.wishes(3, 1);
        due("each other, but WED to others", x.left(3), 0);

        sentence("RIVALS: twos who WISH one third.");
        x = in("p04;p04;p04;p04;p04;p04;p04;w06;w16;w26;w36;w46;w56;");
        due("six of them", x.left(4), 15);
        x.wishes(6, 0);
        x.wishes(5, 0);
        due("five, and two", x.left(4), 10 + 1);
        due("itself is no third", in("p04;p04;w01;").left(4), 0);
        due("nobody there is no third", in("p04;p04;w05;w15;").left(4), 0);
    }

    private void image() {
        sentence("THE IMAGE: all that there is of I, but it, letters, the ROW, REFUSALS.");
        LostBets x = in("p04;p30;p58;p30;w12;e198;b000;b200;a01011;a23014;d01;");
        due("DAY", x.image(), 1);
        List<Integer> before = townOf(x);
        x.wishes(1, 0);
        x.fixes(1, 1, 0);
        x.believes(3, 4, 9);
        x.days(60);
        x.person(0, 0);
        x.proposes(4, 2, 0, 0, 1);
        x.row(7);
        for (char c : "p04;".toCharArray()) x.feed(c);
        x.belief(-1, 0);
        due("it is another town", before.equals(townOf(x)) ? 1 : 0, 0);
        due("DAY", x.restore(), 1);
        due("it is the same town", before.equals(townOf(x)) ? 1 : 0, 1);
        due("letters", x.count(5), 4);
        due("the ROW", x.count(6), 1);
        due("REFUSALS", x.count(11) + x.count(12) + x.count(13) + x.count(14) + x.count(16), 1);
        due("what can be TAKEN BACK", x.count(7), 0);
        due("the letters are as they were", x.town(), 1);
        due("the ROW is as it was", x.judge(), 0);

        sentence("It is RESTORED: DAY. -3 there is none.");
        due("as often as one likes", x.restore() * 10 + x.count(0), 14);
        x.days(2);
        due("a new one", x.image(), 3);
        x.days(5);
        due("the new one", x.restore(), 3);
        due("none", new LostBets().restore(), -3);
        x = in("p04;");
        x.image();
        tell(x, "p29;p30;w10;w02;b100;b140;a12011;d01;");
        due("TEARS of one that is there no more", x.personOf(1, 3), 10);
        x.restore();
        due("one more", x.person(0, 9), 1);
        due("is as at first: TEARS", x.personOf(1, 3), 0);
        due("WISHES", x.personOf(1, 2), 1);
        due("WED", x.personOf(1, 4), -9);
        due("BELIEF", x.belief(1, 0) * 10 + x.belief(1, 4), 55);
    }

    private static List<Integer> townOf(LostBets x) {
        List<Integer> all = new ArrayList<>();
        for (int what = 0; what <= 4; what++) all.add(x.count(what));
        for (int p = 0; p < x.count(0); p++) {
            for (int what = 0; what <= 7; what++) all.add(x.personOf(p, what));
            for (int e = 0; e < 5; e++) all.add(x.belief(p, e));
        }
        for (int e = 0; e < 5; e++) {
            for (int what = 0; what <= 2; what++) all.add(x.eventOf(e, what));
        }
        for (int w = 0; w < x.count(2); w++) {
            for (int what = 0; what <= 4; what++) all.add(x.wagerOf(w, what));
        }
        return all;
    }

    private void counted() {
        sentence("Of hope() 1000000000 less them (-1 as 1000000001), of longs 4000000000000000000 less them "
            + "(-1 as 4000000000000000001).");
        LostBets x = new LostBets();
        due("hope() -1", x.hope(0, 0, 0), 1000000001);
        due("sure() -1", x.sure(0, 0, 2, 0), 4000000000000000001L);
        due("mean() -1", x.mean(5, 0), 4000000000000000001L);
        due("mean() -2", x.mean(0, 2), 4000000000000000002L);
        x.person(0, 0);
        due("hope() -4", x.hope(0, 0, -1), 1000000004);
        due("hope() -6", x.hope(0, 0, 61), 1000000006);
        due("sure() -2", x.sure(0, 0, 2, 2), 4000000000000000002L);
        due("sure() -4", x.sure(0, -1, 2, 0), 4000000000000000004L);
        due("sure() -6", x.sure(0, 8, 2, 0), 4000000000000000006L);
        due("they are counted alike", x.count(11) * 1000 + x.count(12) * 100 + x.count(14) * 10 + x.count(16), 3222);

        sentence("11 .. 16 REFUSALS -1 .. -6. -9 for another what.");
        x = in("p04;");
        for (int i = 0; i < 5; i++) x.belief(1, 0);
        for (int i = 0; i < 4; i++) x.left(5);
        for (int i = 0; i < 3; i++) x.back();
        for (int i = 0; i < 2; i++) x.row(-1);
        x.row(100);
        int[] want = {5, 4, 3, 2, 0, 1};
        for (int no = 1; no <= 6; no++) due("REFUSALS -" + no, x.count(10 + no), want[no - 1]);
        for (int what : new int[] {-1, 8, 9, 10, 17, MIN, MAX}) due("count(" + what + ")", x.count(what), -9);
        int[] again = new int[6];
        for (int no = 1; no <= 6; no++) again[no - 1] = x.count(10 + no);
        due("another what is no refusal", Arrays.equals(want, again) ? 1 : 0, 1);
    }
}
