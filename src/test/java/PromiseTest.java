/** Each promise of DOC.md by itself, with answers reckoned by hand: the usual, the edges, what is refused. */
public final class PromiseTest {
    private static final int MIN = Integer.MIN_VALUE;
    private static final int MAX = Integer.MAX_VALUE;
    private static final long REFUSED = 4000000000000000000L;

    private final Check check = new Check("PromiseTest");
    private int promise;

    public static void main(String[] args) {
        PromiseTest test = new PromiseTest();
        test.letters();
        test.whatThereIs();
        test.whatChanges();
        test.daysGoBy();
        test.takenBack();
        test.inMind();
        test.bets();
        test.match();
        test.fixAndPreach();
        test.wagers();
        test.byTheRow();
        test.two();
        test.odds();
        test.whoWishesWhom();
        test.beliefsOfAll();
        test.left();
        test.image();
        test.count();
        test.check.end();
    }

    private void due(String what, long got, long want) {
        check.due("promise " + promise + ": " + what, got, want);
    }

    private void refused(long got, int no) {
        due("a refusal", got, no);
    }

    private static int tell(LostBets x, String town) {
        for (int i = 0; i < town.length(); i++) x.feed(town.charAt(i));
        return x.town();
    }

    private LostBets in(String town) {
        LostBets x = new LostBets();
        check.holds("the town " + town, tell(x, town) > 0);
        return x;
    }

    // One of each kind: 0 SUITOR, 1 AUNT, 2 GIRL, 3 GAMBLER, 4 RICH, 5 HONEST.
    private static final String ALL_KINDS = "p04;p15;p23;p36;p49;p58;";

    /** 0 SUITOR 1 GAMBLER; 0 does not believe in event 0 (every 2), so dares to bet that it happens. */
    private static final String PAIR = "p04;p30;b000;";

    private void letters() {
        promise = 2;
        LostBets x = new LostBets();
        refused(x.feed(-1), -4);
        refused(x.feed(MIN), -4);
        refused(x.feed(256), -6);
        refused(x.feed(MAX), -6);
        due("the first letter", x.feed(255), 1);
        for (int i = 2; i < 96; i++) x.feed(0);
        due("the last letter", x.feed(0), 96);
        refused(x.feed(0), -6);
        refused(x.feed(-1), -4);
        due("letters", x.count(5), 96);
        due("refusals", x.count(14), 3);
        due("refusals", x.count(16), 3);

        promise = 3;
        due("no TOWN", x.town(), -1000);
        due("letters after a FAULT", x.count(5), 0);
        String[] faults = {
            "", "x", "p", "p0", "p0x", "p04", "p04x", "p04;;", "p04; p15;", "p04;p", "p4/;", "p4:;", ";", "04;", "P04;",
            "p60;x", "w0;", "e21;", "e2110;", "b000", "a0101;", "d1;", "d100;", "p04;d60",
        };
        int[] places = {0, 0, 1, 2, 2, 3, 3, 4, 4, 5, 2, 2, 0, 0, 0, 4, 2, 3, 4, 4, 5, 2, 3, 7};
        for (int i = 0; i < faults.length; i++) {
            due("'" + faults[i] + "'", tell(new LostBets(), faults[i]), -1000 - places[i]);
        }
        String[] wrongs = {
            "p60;", "p04;w10;", "p04;w07;", "w00;", "e500;", "e200;", "e219;", "p04;b050;", "b000;", "d00;", "d61;",
            "p04;p15;p23;p36;p49;p58;p00;p00;", "p04;p30;b000;a00011;", "p04;p30;b000;a02011;", "p04;p30;b000;a01511;",
            "p04;p30;b000;a01021;", "p04;p30;b000;a01010;", "p04;p30;a01011;", "a01011;p04;p30;b000;",
            "p04;p30;b000;a01011;a01011;", "p04;w10;p60;",
        };
        int[] at = {0, 4, 4, 0, 0, 0, 0, 4, 0, 0, 0, 28, 13, 13, 13, 13, 13, 8, 0, 20, 4};
        for (int i = 0; i < wrongs.length; i++) {
            due("'" + wrongs[i] + "'", tell(new LostBets(), wrongs[i]), -2000 - at[i]);
        }
        x = in("p04;");
        x.believes(0, 0, 3);
        due("a FAULT behind good statements", tell(x, "p30;b007;e133;d05;p60;"), -2018);
        due("nothing came", x.count(0), 1);
        due("BELIEF stays", x.belief(0, 0), 3);
        due("EVERY stays", x.eventOf(1, 0), 3);
        due("DAY stays", x.count(1), 0);
        due("what can be TAKEN BACK stays", x.count(7), 1);
        for (int no = 11; no <= 16; no++) due("nothing is counted", x.count(no), 0);
        due("a WAGER that can not be", tell(x, "p30;w06;e218;b009;a10011;"), -2018);
        due("STATEMENTS", tell(x, "p30;w06;e218;b000;a01019;d60;"), 6);
        due("nothing can be TAKEN BACK", x.count(7), 0);
        due("DAY", x.count(1), 60);
        due("WISHES nobody there", x.personOf(0, 2), 6);
        due("EVENT", x.eventOf(2, 0) * 10 + x.eventOf(2, 1), 18);
        due("came out", x.count(2), 0);

        LostBets late = new LostBets();
        StringBuilder days = new StringBuilder();
        for (int i = 0; i < 16; i++) days.append("d60;");
        due("960 DAYS", tell(late, days.toString()), 16);
        due("DAY 1000", tell(late, "d40;"), -2000);
        due("DAY 999", tell(late, "d39;"), 1);
        due("DAY", late.count(1), 999);
        due("DAY 1000", tell(late, "d01;"), -2000);
    }

    private void whatThereIs() {
        promise = 1;
        LostBets x = new LostBets();
        for (int what = 0; what <= 7; what++) due("count(" + what + ")", x.count(what), 0);
        for (int what = 11; what <= 16; what++) due("count(" + what + ")", x.count(what), 0);
        for (int e = 0; e < 5; e++) {
            due("EVERY", x.eventOf(e, 0), e + 2);
            due("ON", x.eventOf(e, 1), 0);
        }

        promise = 4;
        refused(x.personOf(0, 0), -1);
        x = in(ALL_KINDS);
        int[] asks = {5, 6, 3, 0, 9, 3};
        int[] weeps = {5, 2, 10, 0, 3, 8};
        int[] learns = {1, 0, 2, 1, 1, 3};
        int[] figures = {4, 5, 3, 6, 9, 8};
        for (int p = 0; p < 6; p++) {
            due("KIND", x.personOf(p, 0), p);
            due("FIGURE", x.personOf(p, 1), figures[p]);
            due("WISHES", x.personOf(p, 2), p);
            due("TEARS", x.personOf(p, 3), 0);
            due("WED", x.personOf(p, 4), -9);
            due("ASKS of " + p, x.personOf(p, 5), asks[p]);
            due("WEEPS of " + p, x.personOf(p, 6), weeps[p]);
            due("LEARNS of " + p, x.personOf(p, 7), learns[p]);
        }
        due("ASKS of a RICH one with 2", in("p42;").personOf(0, 5), 6);
        due("ASKS of a RICH one with 5", in("p45;").personOf(0, 5), 7);
        refused(x.personOf(6, 0), -1);
        refused(x.personOf(-1, 9), -1);
        refused(x.personOf(0, -1), -2);
        refused(x.personOf(0, 8), -2);
        due("refusals", x.count(11) * 10 + x.count(12), 22);

        promise = 5;
        due("BELIEF", x.belief(5, 4), 5);
        refused(x.belief(6, 0), -1);
        refused(x.belief(-1, 0), -1);
        refused(x.belief(0, 5), -1);
        refused(x.belief(0, -1), -1);

        promise = 6;
        x = in("e194;d04;");
        due("EVERY", x.eventOf(1, 0), 9);
        due("ON", x.eventOf(1, 1), 4);
        due("8 is no multiple of 9", x.eventOf(1, 2), 0);
        x.days(1);
        due("9 is a multiple of 9", x.eventOf(1, 2), 1);
        refused(x.eventOf(-1, 0), -1);
        refused(x.eventOf(5, 3), -1);
        refused(x.eventOf(0, 3), -2);
        refused(x.eventOf(0, -1), -2);

        promise = 7;
        refused(x.wagerOf(0, 0), -1);
        int[] first = {3, 2, 4, 0, 9};
        int[] second = {0, 1, 0, 1, 6};
        x = in("p04;p30;p30;p04;b000;b348;a32409;a01016;");
        for (int what = 0; what < 5; what++) {
            due("the first", x.wagerOf(0, what), first[what]);
            due("the second", x.wagerOf(1, what), second[what]);
        }
        refused(x.wagerOf(2, 0), -1);
        refused(x.wagerOf(-1, 9), -1);
        refused(x.wagerOf(0, 5), -2);
        refused(x.wagerOf(0, -1), -2);
        x.days(6);
        due("the first, now alone", x.wagerOf(0, 0), 3);
        due("the DAYS yet", x.wagerOf(0, 4), 3);
        refused(x.wagerOf(1, 0), -1);
    }

    private void whatChanges() {
        promise = 8;
        LostBets x = new LostBets();
        refused(x.person(-1, 0), -2);
        refused(x.person(6, -1), -2);
        refused(x.person(0, -1), -4);
        refused(x.person(0, 10), -6);
        for (int i = 0; i < 7; i++) due("one more", x.person(i % 6, 9), i);
        refused(x.person(5, 9), -6);
        refused(x.person(5, -1), -4);
        due("PEOPLE", x.count(0), 7);

        promise = 9;
        x = in(ALL_KINDS);
        due("whom it did", x.wishes(0, 6), 0);
        due("whom it did", x.wishes(0, 3), 6);
        due("itself", x.wishes(0, 0), 3);
        refused(x.wishes(6, 0), -1);
        refused(x.wishes(-1, 0), -1);
        refused(x.wishes(0, 7), -1);
        refused(x.wishes(0, -1), -1);
        due("WISHES", x.personOf(0, 2), 0);

        promise = 10;
        due("what it was", x.believes(1, 4, 9), 5);
        due("what it was", x.believes(1, 4, 0), 9);
        due("BELIEF", x.belief(1, 4), 0);
        due("another's", x.belief(2, 4), 5);
        refused(x.believes(6, 0, 0), -1);
        refused(x.believes(-1, 0, 0), -1);
        refused(x.believes(0, 5, 10), -1);
        refused(x.believes(0, -1, 0), -1);
        refused(x.believes(0, 0, -1), -4);
        refused(x.believes(0, 0, 10), -6);
        due("what can be TAKEN BACK", x.count(7), 2);

        promise = 11;
        due("what it had", x.fixes(3, 9, 8), 50);
        due("what it had", x.fixes(3, 1, 0), 98);
        refused(x.fixes(-1, 1, 0), -1);
        refused(x.fixes(5, 0, 0), -1);
        refused(x.fixes(0, 0, 9), -4);
        refused(x.fixes(0, 10, -1), -4);
        refused(x.fixes(0, 10, 0), -6);
        refused(x.fixes(0, 1, 9), -6);
        due("EVERY", x.eventOf(3, 0), 1);

        promise = 12;
        x = in("p04;p30;p04;p04;b000;b106;b207;w20;b305;");
        refused(x.proposes(0, 0, 0, 1, 1), -1);
        refused(x.proposes(0, 4, 0, 1, 1), -1);
        refused(x.proposes(-1, 1, 0, 1, 1), -1);
        refused(x.proposes(0, 1, 5, 2, 1), -1);
        refused(x.proposes(0, 1, -1, 1, 1), -1);
        refused(x.proposes(0, 1, 0, 2, 0), -2);
        refused(x.proposes(0, 1, 0, -1, 1), -2);
        refused(x.proposes(2, 3, 0, 1, 0), -4);
        refused(x.proposes(2, 3, 0, 1, 10), -6);
        // 2 trusts in side 1 by 7, so may not bet on it; on side 0 it trusts by 2, but 3 trusts by 4 and asks 5
        refused(x.proposes(2, 3, 0, 1, 1), -3);
        refused(x.proposes(2, 3, 0, 0, 1), -3);
        // 3 believes 5: on side 0 it trusts by 4, just little enough; 2 trusts by 2 and asks 5
        refused(x.proposes(3, 2, 0, 0, 1), -3);
        due("a gambler takes all", x.proposes(3, 1, 0, 0, 9), 1);
        refused(x.proposes(0, 1, 0, 1, 1), -3);
        refused(x.proposes(1, 0, 0, 0, 1), -3);
        // 2 wishes 0 and takes what it believes in least
        x.believes(2, 0, 0);
        due("whom one WISHES", x.proposes(0, 2, 0, 1, 1), 2);
        x.days(1);
        due("0 and 2 are WED", x.count(3), 5);
        x.days(60);
        refused(x.proposes(0, 1, 0, 0, 1), -3);
        refused(x.proposes(1, 0, 0, 0, 1), -3);
        x = in("p04;p04;b004;b105;");
        due("trust 4 against 5", x.proposes(0, 1, 0, 1, 1), 1);
        x = in("p04;p04;b005;b105;");
        refused(x.proposes(0, 1, 0, 1, 1), -3);
        x = in("p04;p04;b004;b104;");
        refused(x.proposes(0, 1, 0, 1, 1), -3);
        x = in("p00;p30;p00;p30;p00;p30;b000;b200;b400;");
        due("three at most", x.proposes(0, 1, 0, 1, 9) + x.proposes(2, 3, 0, 1, 9) + x.proposes(4, 5, 0, 1, 9), 6);
    }

    private void daysGoBy() {
        promise = 13;
        LostBets x = in(ALL_KINDS + "b000;b109;");
        refused(x.days(0), -4);
        refused(x.days(MIN), -4);
        refused(x.days(61), -6);
        refused(x.days(MAX), -6);
        // on DAY 1 no event of every 2 or more happens
        due("the suitor loses", x.proposes(0, 1, 0, 1, 1), 1);
        due("who is WED", x.days(1), 2);
        due("WED to", x.personOf(0, 4) * 10 + x.personOf(1, 4), 10);
        due("TEARS", x.personOf(0, 3) * 10 + x.personOf(1, 3), 52);
        due("open", x.count(2), 0);
        int[] behind = {0, 9, 3, 4, 4, 2};
        for (int p = 0; p < 6; p++) due("BELIEF of " + p, x.belief(p, 0), behind[p]);
        x.days(1);
        int[] next = {1, 9, 5, 5, 5, 5};
        for (int p = 0; p < 6; p++) due("BELIEF of " + p, x.belief(p, 0), next[p]);
        x = in("p23;b008;e010;");
        x.days(1);
        due("no farther than 9", x.belief(0, 0), 9);
        x = in("p23;b001;e090;");
        x.days(1);
        due("no farther than 0", x.belief(0, 0), 0);
        // event 0 happens on DAY 2: who bet that it does has won, who bet that it does not has lost
        x = in("p00;p30;b000;a01012;d02;");
        due("won", x.count(3), 0);
        due("open no more", x.count(2), 0);
        x = in("p00;p30;b009;a01002;d01;");
        due("not yet", x.count(2), 1);
        due("lost", x.days(1), 2);
        due("DAY", x.count(1), 2);
        x = in("p00;p30;b009;a01001;d01;");
        due("won", x.count(3), 0);
        LostBets late = new LostBets();
        for (int i = 0; i < 16; i++) late.days(60);
        refused(late.days(40), -6);
        due("to DAY 999", late.days(39), 0);
        refused(late.days(1), -6);
        due("DAY", late.count(1), 999);
    }

    private void takenBack() {
        promise = 14;
        LostBets x = in(PAIR);
        refused(x.back(), -3);
        x.believes(0, 1, 9);
        x.fixes(2, 9, 8);
        x.proposes(0, 1, 0, 1, 1);
        x.days(1);
        due("WED", x.count(3), 3);
        due("days", x.back(), 3);
        due("WED no more", x.count(3), 0);
        due("TEARS no more", x.count(4), 0);
        due("the WAGER is open", x.wagerOf(0, 4), 1);
        due("DAY", x.count(1), 0);
        due("BELIEF", x.belief(1, 0), 5);
        due("proposes", x.back(), 2);
        due("open", x.count(2), 0);
        due("fixes", x.back(), 1);
        due("EVENT", x.eventOf(2, 0) * 10 + x.eventOf(2, 1), 40);
        due("believes", x.back(), 0);
        due("BELIEF", x.belief(0, 1), 5);
        refused(x.back(), -3);
        for (int i = 0; i < 9; i++) x.believes(0, 1, i);
        due("8 at most", x.count(7), 8);
        for (int i = 7; i >= 0; i--) due("the latest first", x.back(), i);
        due("the oldest is no more", x.belief(0, 1), 0);
        refused(x.back(), -3);
        x.believes(0, 1, 0);
        due("that all stays as it was counts", x.count(7), 1);
        x.believes(0, 1, 10);
        due("a refusal does not", x.count(7), 1);
        x.wishes(0, 9);
        x.person(9, 9);
        x.restore();
        due("refusals leave it", x.count(7), 1);
        x.wishes(0, 0);
        due("wishes() leaves none", x.count(7), 0);
        x.days(1);
        x.person(0, 0);
        due("person() leaves none", x.count(7), 0);
        x.days(1);
        x.image();
        due("image() leaves it", x.count(7), 1);
        x.restore();
        due("restore() leaves none", x.count(7), 0);
    }

    private void inMind() {
        // 0 SUITOR and 1 AUNT are WED behind 3 DAYS, 2 GIRL and 3 GAMBLER behind 5; 4 and 5 win on DAY 4
        LostBets x = in("p04;p15;p23;p36;p00;p58;b000;b109;b200;b400;b503;a23015;a01013;a45014;");
        promise = 15;
        due("WED to, too soon", x.personIn(0, 2, 0), -9);
        due("WED to", x.personIn(0, 3, 0), 1);
        due("WED to", x.personIn(3, 60, 0), 2);
        due("has won", x.personIn(4, 60, 0), -9);
        due("TEARS, too soon", x.personIn(2, 4, 1), 0);
        due("TEARS", x.personIn(2, 5, 1), 10);
        due("TEARS", x.personIn(1, 60, 1), 2);
        due("now", x.personIn(0, 0, 0), -9);
        refused(x.personIn(6, 61, 2), -1);
        refused(x.personIn(-1, 0, 0), -1);
        refused(x.personIn(0, -1, 2), -4);
        refused(x.personIn(0, 61, 2), -6);
        refused(x.personIn(0, 0, 2), -2);
        refused(x.personIn(0, 0, -1), -2);

        promise = 16;
        // event 0 on DAYS 2, 4; the girl learns by 2: 0 0 2 0 2
        int[] girl = {0, 0, 2, 0, 2};
        for (int n = 0; n < 5; n++) due("BELIEF behind " + n, x.beliefIn(2, 0, n), girl[n]);
        due("an aunt learns nothing", x.beliefIn(1, 0, 60), 9);
        refused(x.beliefIn(6, 0, 0), -1);
        refused(x.beliefIn(0, 5, 61), -1);
        refused(x.beliefIn(0, 0, -1), -4);
        refused(x.beliefIn(0, 0, 61), -6);

        promise = 38;
        due("HOPE", x.hope(2, 0, 2), 2);
        due("HOPE below 0", x.hope(5, 0, 1), -3);
        due("HOPE of today", x.hope(5, 0, 0), 0);
        due("nobody", x.hope(6, 0, 0), 1000000001);
        due("nobody", x.hope(-1, 0, 61), 1000000001);
        due("no such EVENT", x.hope(0, 5, 0), 1000000001);
        due("below", x.hope(0, 0, -1), 1000000004);
        due("above", x.hope(0, 0, 61), 1000000006);
        due("refusals", x.count(11) * 100 + x.count(14) * 10 + x.count(16), 733);

        promise = 17;
        int[] wed = {0, 0, 0, 2, 2, 4, 4};
        for (int n = 0; n < 7; n++) due("WED behind " + n, x.wedIn(n), wed[n]);
        refused(x.wedIn(-1), -4);
        refused(x.wedIn(61), -6);
        due("60", x.wedIn(60), 4);

        promise = 18;
        due("WED WHEN", x.wedWhen(0), 3);
        due("WED WHEN", x.wedWhen(3), 5);
        due("never", x.wedWhen(4), -9);
        due("FIRST", x.wedWhen(-1), 0);
        refused(x.wedWhen(6), -1);
        refused(x.wedWhen(-2), -1);
        x.days(3);
        due("now", x.wedWhen(1), 0);
        due("FIRST of those not WED", x.wedWhen(-1), 2);
        x.days(2);
        due("none is FIRST", x.wedWhen(-1), -9);
        due("of several the least", in("p00;p30;p00;p30;b000;b200;a23011;a01011;").wedWhen(-1), 0);

        promise = 19;
        x = in("e133;d02;");
        // from DAY 2, every 3: DAYS 3, 6, 9 ..
        due("none", x.happens(1, 0), 0);
        due("the next DAY", x.happens(1, 1), 1);
        due("not yet twice", x.happens(1, 3), 1);
        due("60 DAYS", x.happens(1, 60), 20);
        refused(x.happens(5, -1), -1);
        refused(x.happens(-1, 0), -1);
        refused(x.happens(0, -1), -4);
        refused(x.happens(0, 61), -6);
        LostBets late = new LostBets();
        for (int i = 0; i < 16; i++) late.days(60);
        late.days(39);
        due("DAY 1000 in mind", late.happens(0, 1), 1);
    }

    private void bets() {
        promise = 20;
        // all believe 5: who proposes trusts by 4 in side 0 only, which is lost when the event happens
        LostBets x = in("p04;p30;p04;");
        due("event 0 on DAY 2, side 0", x.bet(0, 1), 2);
        due("none takes it", x.bet(0, 2), -9);
        due("a gambler bets, too; the suitor trusts by 4", x.bet(1, 0), -9);
        x.believes(0, 3, 4);
        due("event 3, side 1, is lost on DAY 1", x.bet(0, 1), 311);
        x.believes(0, 2, 4);
        due("of several the least", x.bet(0, 1), 211);
        due("a suitor takes what it trusts in by 5", x.bet(0, 2), 211);
        refused(x.bet(0, 0), -1);
        refused(x.bet(0, 3), -1);
        refused(x.bet(-1, 0), -1);
        x.proposes(0, 1, 3, 1, 9);
        due("in a WAGER", x.bet(0, 2), -9);
        due("in a WAGER", x.bet(2, 1), -9);
        x.days(9);
        due("WED", x.bet(0, 2), -9);
        // event 0 alone is believed in; every 9: on DAY 9
        x = in("p09;p30;e090;e190;e290;e390;e490;e191;");
        due("DAY 8 of event 1", x.bet(0, 1), 108);
        x = in("p09;p30;e191;e291;e391;e491;e091;d09;");
        due("9 DAYS at most", x.bet(1, 0), -9);

        promise = 21;
        x = in(ALL_KINDS + "b000;b106;b203;b300;b409;b502;");
        due("who would TAKE it", x.takers(0, 0, 1), 2 + 4 + 8 + 16);
        // trust in side 0: 9 3 6 9 0 7, asks 5 6 3 0 9 3
        due("who would TAKE it", x.takers(1, 0, 0), 1 + 4 + 8 + 32);
        due("itself not", x.takers(3, 0, 0), 1 + 4 + 32);
        x.wishes(4, 1);
        due("whom it WISHES", x.takers(1, 0, 0), 1 + 4 + 8 + 16 + 32);
        x.proposes(0, 3, 0, 1, 1);
        due("WAGERS no matter", x.takers(1, 0, 0), 1 + 4 + 8 + 16 + 32);
        x.days(1);
        due("WEDDINGS no matter", x.takers(1, 0, 0), 1 + 4 + 8 + 16 + 32);
        refused(x.takers(6, 0, 2), -1);
        refused(x.takers(0, 5, 2), -1);
        refused(x.takers(0, 0, 2), -2);
        refused(x.takers(0, 0, -1), -2);

        promise = 22;
        x = in("p04;p30;p04;p04;w23;");
        due("all woo the gambler", x.wooers(1), 1 + 4 + 8);
        due("none woos a suitor", x.wooers(0), 0);
        due("whom one WISHES", x.wooers(2), 8);
        x.proposes(2, 1, 0, 0, 1);
        due("in a WAGER", x.wooers(1), 0);
        refused(x.wooers(4), -1);
        refused(x.wooers(-1), -1);
    }

    private void match() {
        promise = 23;
        // suitors 0, 1, 2 woo gamblers 3, 4 alike; suitors do not take one another's bets
        LostBets x = in("p04;p04;p04;p30;p30;");
        due("gamblers woo each other, too", x.match(-1), 2);
        int[] with = {3, 4, -9, 0, 1};
        for (int p = 0; p < 5; p++) due("with whom " + p + " is", x.match(p), with[p]);
        x = in("p30;p30;p04;p04;");
        // 0 with 1 would leave 2 and 3 alone
        due("the most twos", x.match(-1), 2);
        due("not the least one, if fewer come", x.match(0), 2);
        due("what is left", x.match(1), 3);
        x.proposes(2, 0, 0, 0, 1);
        due("not those in a WAGER", x.match(-1), 1);
        due("in a WAGER", x.match(0), -9);
        due("one way or the other", x.match(3), 1);
        refused(x.match(4), -1);
        refused(x.match(-2), -1);
        due("alone", in("p04;").match(0), -9);
        due("none", in("p04;p04;").match(-1), 0);
    }

    private void fixAndPreach() {
        promise = 24;
        // 0 bets on event 0 in 2 DAYS (every 2) and would win; 2 bets against event 1 in 1 DAY and would win
        LostBets x = in("p04;p30;p04;p30;b000;a01012;a23101;");
        due("too soon", x.fix(0), -9);
        due("event 1 on DAY 1: ON 2", x.fix(1), 12);
        due("event 0 not on DAY 2: ON 1", x.fix(2), 1);
        due("30", x.fix(30), 1);
        refused(x.fix(-1), -4);
        refused(x.fix(31), -6);
        x = in("p04;p30;b000;a01011;");
        due("lost anyway: none does more", x.fix(30), -9);

        promise = 25;
        x = in("p04;p04;p04;p04;e010;e110;e210;e310;e410;b009;b109;b209;b301;");
        // events happen each DAY, so bets on side 0 are lost; who believes 5 or more dares to, and 4 or less takes
        x = in("p04;p04;p04;e010;e110;e210;e310;e410;b009;b109;b209;");
        due("each may have two, the least", x.preach(0), 0);
        due("each may have two, by another event, too", x.preach(1), 0);
        x.believes(0, 0, 1);
        due("all woo 0 already, so 1 would have one more", x.wooers(0), 6);
        due("one more", x.preach(0), 1);
        due("gamblers take all already", in("p30;p30;").preach(0), -9);
        due("nobody", new LostBets().preach(0), -9);
        x.believes(0, 0, 9);
        refused(x.preach(5), -1);
        refused(x.preach(-1), -1);
        due("BELIEF stays", x.belief(0, 0), 9);
        // all woo the gambler 0 already; 1 wishes 2, so has one wooer and may have two
        x = in("p30;p04;p04;w12;e010;e110;e210;e310;e410;b009;b109;b209;");
        due("more than now", x.preach(0), 1);
    }

    private void wagers() {
        promise = 26;
        // 0 and 1 trust in event 0 by 4 and 4; 2 and 3 by 4 and 9; both alike for side 0
        LostBets x = in("p04;p30;p04;p30;b004;b104;b309;b204;a01019;a23018;");
        due("FAIR", x.fair(0), 1);
        // DAY 9 has no event 0, so the first is lost; on DAY 8 it happens
        due("LOST", x.fair(1), 1);
        x.days(8);
        due("LOST", x.fair(1), 1);
        due("one is left", x.count(2), 1);
        refused(x.fair(2), -2);
        refused(x.fair(-1), -2);
        due("of none", new LostBets().fair(0), 0);
        due("side 0", in("p04;p30;p04;p30;b008;b108;b209;b300;a23002;a01001;").fair(0), 2);
        due("side 0", in("p04;p30;p04;p30;b008;b108;b209;b300;a23002;a01001;").fair(1), 1);

        promise = 27;
        // who weeps: 0 and 1 by 5 on DAY 1, 2 and 3 by 10 on DAY 3, 4 and 5 by 9 on DAY 5
        x = in("p04;p30;p20;p30;p59;p30;b000;b200;b400;a01011;a23013;a45015;");
        due("none", x.hedge(24, 30), 0);
        due("the least WAGER", x.hedge(19, 30), 1);
        due("the second", x.hedge(18, 30), 2);
        due("the second of several", x.hedge(14, 30), 2);
        due("two", x.hedge(13, 30), 3);
        due("two", x.hedge(5, 30), 6);
        due("all", x.hedge(4, 30), 7);
        due("fewer DAYS", x.hedge(4, 4), 3);
        due("no DAYS", x.hedge(0, 0), 0);
        refused(x.hedge(-1, 31), -4);
        refused(x.hedge(100, -1), -4);
        refused(x.hedge(100, 0), -6);
        refused(x.hedge(0, 31), -6);
        x.days(1);
        due("TEARS that are there stay", x.hedge(4, 30), -9);
        due("TEARS that are there stay", x.hedge(5, 30), 3);
        due("open", x.count(2), 2);
    }

    private void byTheRow() {
        promise = 39;
        LostBets x = in("p04;p30;p04;b000;b005;b000;a01012;");
        refused(x.row(-1), -4);
        refused(x.row(100), -6);
        for (int i = 1; i <= 12; i++) due("how many", x.row(99), i);
        refused(x.row(0), -6);
        refused(x.row(-1), -4);
        promise = 41;
        due("how many it had", x.clear(), 12);
        due("none", x.clear(), 0);
        due("none", x.count(6), 0);

        promise = 28;
        due("an empty ROW", x.uponWhat(0, 0), 31);
        due("an empty ROW", x.uponWhat(0, 1), 3);
        due("in no WAGER", x.uponWhat(2, 0), -9);
        x.row(0);
        x.row(0);
        x.row(5);
        // on DAY 2 event 0 alone happens of those every 2, 3, 4, 5, 6
        due("it wept on DAY 2: upon 1, 2, 3 or 4", x.uponWhat(0, 0), 30);
        due("as it is, by SIDE 0", x.uponWhat(0, 1), 1);
        due("the gambler never weeps", x.uponWhat(1, 0), 0);
        due("the ROW stays", x.count(6), 3);
        x.clear();
        x.row(0);
        x.row(0);
        x.row(0);
        due("it wept not", x.uponWhat(0, 0), 1);
        due("it wept not", x.uponWhat(0, 1), 2);
        due("whichever it is", x.uponWhat(1, 0), 31);
        refused(x.uponWhat(3, 2), -1);
        refused(x.uponWhat(-1, 0), -1);
        refused(x.uponWhat(2, 2), -2);
        refused(x.uponWhat(0, -1), -2);
        due("the WAGER stays", x.wagerOf(0, 2) * 10 + x.wagerOf(0, 3), 1);

        promise = 29;
        x.clear();
        x = in("p04;p54;b000;a01011;");
        due("an empty ROW", x.whatKind(1, 0), 63);
        due("an empty ROW", x.whatKind(1, 1), 1023);
        x.row(0);
        due("all so", x.whatKind(1, 0), 63);
        x.row(4);
        due("an honest one", x.whatKind(1, 0), 32);
        due("with 4", x.whatKind(1, 1), 16);
        due("FIGURE 4 would be a kind of it, too", x.whatKind(0, 0), 32);
        due("a suitor weeps by 5, whatever its FIGURE", x.whatKind(0, 1), 0);
        x.clear();
        x.row(0);
        x.row(5);
        due("a suitor", x.whatKind(0, 0), 1);
        due("any FIGURE", x.whatKind(0, 1), 1023);
        x.clear();
        x.row(0);
        x.row(0);
        due("a gambler", x.whatKind(1, 0), 8);
        due("with 0", x.whatKind(1, 1), 1);
        x.clear();
        x.row(1);
        due("never so", x.whatKind(1, 0), 0);
        refused(x.whatKind(2, 2), -1);
        refused(x.whatKind(-1, 0), -1);
        refused(x.whatKind(0, 2), -2);
        refused(x.whatKind(0, -1), -2);
        due("the ROW stays", x.count(6), 1);
        due("the KIND stays", x.personOf(1, 0), 5);

        promise = 40;
        x = in("p04;p30;b003;b107;");
        due("an empty ROW", x.judge(), -9);
        x.row(3);
        due("all so", x.judge(), -9);
        due("the ROW is no more", x.count(6), 0);
        x.row(3);
        x.row(7);
        x.row(5);
        due("none there", x.judge(), 2);
        due("the ROW is no more", x.count(6), 0);
        x.row(3);
        x.row(6);
        x.row(5);
        due("the first that is not so", x.judge(), 1);
        x.row(0);
        x.row(6);
        due("the first of several", x.judge(), 0);
        LostBets nobody = new LostBets();
        nobody.row(0);
        due("nobody there", nobody.judge(), 0);
    }

    private void two() {
        promise = 30;
        // on DAY 1 event 0 does not happen, so a WAGER on it is lost; on DAY 2 it does
        LostBets x = in("p04;p04;p30;p20;p00;w01;");
        due("the suitor 1 must believe", x.two(0, 1, 0), 1);
        due("the gambler takes it anyway", x.two(0, 2, 0), 0);
        due("so does the girl that asks 0", x.two(0, 3, 0), 0);
        due("who WISHES the first takes it anyway", x.two(1, 0, 0), 0);
        due("an event that happens is not lost", in("p04;p04;e010;").two(0, 1, 0), 0);
        due("BELIEF stays", x.belief(1, 0), 5);
        refused(x.two(0, 0, 0), -1);
        refused(x.two(0, 5, 0), -1);
        refused(x.two(-1, 0, 0), -1);
        refused(x.two(0, 1, 5), -1);
        x.believes(0, 0, 0);
        x.proposes(0, 2, 0, 1, 1);
        refused(x.two(0, 1, 0), -3);
        refused(x.two(1, 2, 0), -3);
        refused(x.two(0, 2, -1), -1);
        x.days(1);
        refused(x.two(0, 1, 0), -3);
        due("on DAY 2 event 0 happens", x.two(1, 4, 0), 0);
        due("event 1 does not", x.two(1, 4, 1), 1);
    }

    private void odds() {
        promise = 31;
        LostBets x = in("p04;p30;p04;p30;p04;b000;b209;a01013;a23002;");
        due("SIDE 1 is lost if it does not happen", x.sure(0, 3, 10, 0), 9);
        due("below the line", x.sure(1, 3, 10, 1), 10);
        due("SIDE 0 is lost if it happens", x.sure(2, 2, 20, 0), 1);
        due("below the line", x.sure(3, 7, 20, 1), 20);
        due("not yet", x.sure(0, 2, 10, 0), 0);
        due("0 as 0 over 1", x.sure(0, 2, 10, 1), 1);
        due("in none", x.sure(4, 7, 2, 0), 0);
        due("in none", x.sure(4, 7, 2, 1), 1);
        due("half", x.sure(0, 7, 2, 0) * 10 + x.sure(0, 7, 2, 1), 12);
        due("nobody", x.sure(5, -1, 1, 2), REFUSED + 1);
        due("nobody", x.sure(-1, 0, 2, 0), REFUSED + 1);
        due("below", x.sure(0, -1, 21, 2), REFUSED + 4);
        due("below", x.sure(0, 8, 1, 2), REFUSED + 4);
        due("above", x.sure(0, 8, 2, 2), REFUSED + 6);
        due("above", x.sure(0, 0, 21, 2), REFUSED + 6);
        due("another what", x.sure(0, 0, 2, 2), REFUSED + 2);
        due("another what", x.sure(0, 0, 2, -1), REFUSED + 2);
        due("refusals", x.count(11) * 1000 + x.count(12) * 100 + x.count(14) * 10 + x.count(16), 2222);
        x.days(3);
        due("WED already", x.sure(0, 0, 5, 0) * 10 + x.sure(0, 0, 5, 1), 11);

        promise = 32;
        due("TEARS of all", x.count(4), 10);
        due("over 3", x.shares(3, 0), 3);
        due("what is over", x.shares(3, 1), 1);
        due("over 9", x.shares(9, 0) * 10 + x.shares(9, 1), 11);
        due("over 1", x.shares(1, 0) * 10 + x.shares(1, 1), 100);
        refused(x.shares(0, 2), -4);
        refused(x.shares(10, 2), -6);
        refused(x.shares(1, 2), -2);
        refused(x.shares(1, -1), -2);

        promise = 42;
        // z 0 draws ON 0, 3, 7, 4, 6 for the first summer and 7, .. for the second
        x = in("p04;p30;b000;a01011;");
        due("event 0 with ON 0 does not come on DAY 1", x.lots(1, 0, 0), 2);
        due("TEARS", x.lots(1, 0, 1), 5);
        due("event 0 with ON 7 does", x.lots(2, 0, 0), 2);
        LostBets other = in("p04;p30;b029;a01201;");
        due("event 2 with ON 7 comes on DAY 1", other.lots(1, 0, 0), 2);
        other = in("p04;p30;b020;a01211;");
        due("event 2 with ON 7 comes on DAY 1", other.lots(1, 0, 0), 0);
        due("WED stay so", x.days(1), 2);
        due("in each summer", x.lots(20, 7, 0), 40);
        due("in each summer", x.lots(20, MIN, 1), 100);
        due("EVENTS stay", x.eventOf(1, 1), 0);
        refused(x.lots(0, 0, 2), -4);
        refused(x.lots(21, 0, 2), -6);
        refused(x.lots(1, 0, 2), -2);
        refused(x.lots(1, 0, -1), -2);
    }

    private void whoWishesWhom() {
        promise = 33;
        LostBets x = new LostBets();
        due("nobody", x.saddest(0), -9);
        x = in("p04;p30;p20;p30;p04;p04;b000;b200;a01011;a23012;");
        due("all alike, the least", x.saddest(0), 0);
        due("FREE", x.saddest(2), 48);
        x.days(1);
        due("0 wept by 5", x.saddest(0), 0);
        due("2 won", x.days(1), 2);
        due("FREE", x.saddest(2), 4 + 8 + 16 + 32);
        x = in("p04;p30;p20;p30;b000;b200;a01011;a23013;d03;");
        due("2 wept by 10", x.saddest(0), 2);
        x = in("p04;p04;p04;p04;p04;w01;w10;w22;w34;w43;");
        due("MUTUAL", x.saddest(1), 2);
        x.wishes(1, 2);
        due("MUTUAL", x.saddest(1), 1);
        refused(x.saddest(3), -2);
        refused(x.saddest(-1), -2);

        promise = 34;
        x = in("p04;p04;p04;w02;w12;w22;");
        due("itself does not count", x.wished(2), 2);
        due("none", x.wished(0), 0);
        refused(x.wished(3), -1);
        refused(x.wished(-1), -1);
    }

    private void beliefsOfAll() {
        promise = 35;
        LostBets x = new LostBets();
        due("nobody", x.mean(0, 0), 0);
        due("nobody", x.mean(0, 1), 1);
        x = in("p04;p04;p04;p04;b001;b102;b203;b304;b010;b110;b210;b310;");
        due("10 over 4", x.mean(0, 0) * 10 + x.mean(0, 1), 52);
        due("0 over 1", x.mean(1, 0) * 10 + x.mean(1, 1), 1);
        due("20 over 4", x.mean(2, 0) * 10 + x.mean(2, 1), 51);
        due("9 over 4", x.believes(3, 0, 3) + x.mean(0, 0) * 10 + x.mean(0, 1), 98);
        due("no such EVENT", x.mean(5, 2), REFUSED + 1);
        due("no such EVENT", x.mean(-1, 0), REFUSED + 1);
        due("another what", x.mean(0, 2), REFUSED + 2);
        due("another what", x.mean(0, -1), REFUSED + 2);
        due("refusals", x.count(11) * 10 + x.count(12), 22);

        promise = 36;
        x = in("p04;p04;p04;p04;p04;b000;b109;b208;b301;b409;");
        due("0 or 9", x.scorn(0), 3);
        due("none", x.scorn(1), 0);
        refused(x.scorn(5), -1);
        refused(x.scorn(-1), -1);
    }

    private void left() {
        promise = 37;
        LostBets x = new LostBets();
        due("none is open", x.left(0), 0);
        due("CHASTE", x.left(1), 60);
        due("all EVENTS on DAY 0", x.left(2), 31);
        x = in("p04;p30;p04;p30;b000;b200;a01013;a23012;");
        due("the last", x.left(0), 3);
        due("CHASTE but for DAY 3", x.left(1), 57);
        x = in("p04;p30;p04;p30;b000;b200;a01012;a23012;");
        due("both are won", x.left(1), 60);
        x = in("p04;p30;p04;p30;b000;b200;a01019;a23011;");
        due("CHASTE from DAY 10", x.left(1), 51);
        x.days(6);
        due("ODD on DAY 6", x.left(2), 1 + 2 + 16);
        x.days(3);
        due("ODD on DAY 9", x.left(2), 2);
        due("WED are chaste", x.left(1), 60);
        due("WIVES", x.left(3), 0);
        x.wishes(0, 1);
        due("one alone", x.left(3), 0);
        x.wishes(1, 0);
        due("WIVES", x.left(3), 1);
        x = in("p04;p04;w01;w10;");
        due("not WED", x.left(3), 0);
        x = in("p04;p04;p04;p04;w03;w13;w23;w33;");
        due("RIVALS", x.left(4), 3);
        x.wishes(2, 0);
        due("RIVALS", x.left(4), 1);
        x.wishes(0, 5);
        x.wishes(1, 5);
        due("nobody there", x.left(4), 0);
        x.wishes(0, 1);
        x.wishes(1, 1);
        due("itself is none", x.left(4), 0);
        refused(x.left(5), -2);
        refused(x.left(-1), -2);
    }

    private void image() {
        promise = 44;
        LostBets x = in(PAIR);
        refused(x.restore(), -3);
        promise = 43;
        x.days(2);
        x.believes(0, 0, 0);
        x.proposes(0, 1, 0, 1, 1);
        due("DAY", x.image(), 2);
        x.row(5);
        x.feed('p');
        x.days(1);
        x.wishes(0, 1);
        x.person(0, 0);
        x.fixes(0, 9, 8);
        x.days(60);
        due("WED", x.count(3), 3);
        promise = 44;
        due("DAY", x.restore(), 2);
        due("PEOPLE", x.count(0), 2);
        due("WED", x.count(3), 0);
        due("TEARS", x.count(4), 0);
        due("open", x.wagerOf(0, 4), 1);
        due("WISHES", x.personOf(0, 2), 0);
        due("BELIEF", x.belief(0, 0), 0);
        due("EVENT", x.eventOf(0, 0), 2);
        due("the ROW stays", x.count(6), 1);
        due("letters stay", x.count(5), 1);
        due("REFUSALS stay", x.count(13), 1);
        due("nothing can be TAKEN BACK", x.count(7), 0);
        due("one more after it", x.person(3, 3), 2);
        due("BELIEF of one more", x.belief(2, 0), 5);
        due("again", x.restore(), 2);
        due("again", x.count(0), 2);
    }

    private void count() {
        promise = 45;
        LostBets x = in("p04;p30;p30;b000;a01011;");
        x.days(1);
        x.proposes(2, 0, 0, 0, 1);
        x.feed('x');
        x.row(1);
        x.row(1);
        int[] want = {3, 1, 0, 3, 5, 1, 2, 1, -9, -9, -9, 0, 0, 1, 0, 0, 0, -9};
        for (int what = 0; what < want.length; what++) due("count(" + what + ")", x.count(what), want[what]);
        due("another what", x.count(-1), -9);
        due("another what", x.count(MIN), -9);
        due("another what", x.count(MAX), -9);
        x.count(99);
        due("is no refusal", x.count(12), 0);
        x.feed(-1);
        x.row(100);
        x.belief(9, 9);
        x.personOf(0, 9);
        int[] refusals = {1, 1, 1, 1, 0, 1};
        for (int i = 0; i < 6; i++) due("count(" + (11 + i) + ")", x.count(11 + i), refusals[i]);
    }
}
