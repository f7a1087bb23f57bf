/** The edges of promises 1 to 6 and 27: each sentence that names one, by itself. */
public final class EdgesOfFundsTest {
    private static final Check CHECK = new Check();
    private static final Story NEW = new Story(CHECK);
    private static final int BAD = Story.BAD, FULL = Story.FULL, LEAST = Story.LEAST, MOST = Story.MOST;

    public static void main(String[] args) {
        newObjectAnswers();
        newObjectsShareNothing();
        fundEnds();
        fundsFull();
        giveNumbers();
        giveUpToTheMost();
        giveCountsWhatWasGiven();
        givenIsLeftPromisedAndPaid();
        fundTold();
        readerNumbers();
        readersFull();
        readerTold();
        counts();
        CHECK.end();
    }

    /** 1: Nothing but TEXT 0. */
    private static void newObjectAnswers() {
        int[] counts = {0, 0, 0, 1, 0, 0, 0, 0};
        for (int what = 0; what < counts.length; what++) {
            NEW.due("count " + what, counts[what]);
        }
        String[] bad = {"give 0 1", "fundTold 0 0", "readerTold 0 0", "told 0 0", "force 1", "bar 0 0",
            "barred 0 0", "mark 0 0 0", "fit 0 0", "choose 0", "grant 0 0 1 1 0", "proof 0 0", "due 0 0", "stop 0",
            "back 0 1"};
        for (String call : bad) {
            NEW.refuses(call, BAD);
        }
        NEW.refuses("says 0 0 0", Story.NO);
        NEW.refuses("worth 0 0", Story.NO);
        NEW.refuses("text", -100);
        NEW.refuses("taken 0 0", Story.NOTHING);
        for (int sheet = 0; sheet < 4; sheet++) {
            NEW.refuses("cell " + sheet + " 0 0", Story.NOTHING);
            NEW.refuses("asks " + sheet + " 0 0 0", Story.NOTHING);
        }
        NEW.due("force 0", 0);
        NEW.due("deal", 0);
        NEW.due("places", 0);
        NEW.due("fund 0", 0);
        NEW.due("reader 0 0 1", 0);
        NEW.due("ask 0 0 0 0 1 0", 0);
        NEW.due("feed 1 0", 1);
    }

    private static void newObjectsShareNothing() {
        GiftOffice x = new GiftOffice();
        GiftOffice y = new GiftOffice();
        CHECK.due("a rule for x alone", Check.rule(x, "may 7; pass 8; late 9;") ? 1 : 0, 1);
        Check.feed(x, "may");
        x.fund(1);
        x.reader(1, 1, 1);
        x.ask(1, 1, 1, 1, 9999, 1);
        x.sheet(0, 0, 1);
        int[] counts = {0, 0, 0, 1, 0, 0, 0, 0};
        for (int what = 0; what < counts.length; what++) {
            CHECK.due("y: count " + what, y.count(what), counts[what]);
        }
        CHECK.due("y: TEXT 0", y.ask(1, 1, 1, 1, 5000, 1), Story.STATE);
        CHECK.due("y: sheet 0 is missing", y.cell(0, 0, 0), Story.NOTHING);
        CHECK.due("x: its rule", x.says(0, 0, 0), 7);
    }

    /** 2: BAD: THEMES. */
    private static void fundEnds() {
        for (int end : new int[] {LEAST, -64, -1, 64, 65, 128, 1 << 30, MOST}) {
            NEW.refuses("fund " + end, BAD);
            NEW.then("fund 3").refuses("fund " + end, BAD);
        }
        for (int end : new int[] {0, 1, 32, 63}) {
            NEW.due("fund " + end, 0);
            NEW.then("fund " + end).due("fundTold 0 0", end);
            for (int what = 1; what <= 4; what++) {
                NEW.then("fund " + end).due("fundTold 0 " + what, 0);
            }
        }
    }

    /** FUNDS (5 at most); 2: FULL. */
    private static void fundsFull() {
        Story four = NEW.then("fund 1", "fund 2", "fund 4", "fund 8");
        four.due("fund 16", 4);
        four.due("count 0", 4);
        Story five = four.then("fund 16");
        five.refuses("fund 32", FULL);
        five.refuses("fund 0", FULL);
        five.refuses("fund 64", BAD);
        five.refuses("fund -1", BAD);
        five.due("count 0", 5);
        five.due("fundTold 4 0", 16);
        five.due("give 4 9", 9);
        five.due("choose 4", 0);
        five.refuses("fundTold 5 0", BAD);
        five.refuses("give 5 9", BAD);
        five.refuses("choose 5", BAD);
        five.then("ask 1 9 0 0 1 0").refuses("fit 5 0", BAD);
        five.then("ask 1 9 0 0 1 0").refuses("grant 5 0 1 1 0", BAD);
    }

    /** 3: n COINS (1 .. 1000000); BAD. */
    private static void giveNumbers() {
        Story two = NEW.then("fund 1", "fund 2", "give 1 77");
        for (int n : new int[] {LEAST, -1000000, -1, 0, 1000001, 10000001, MOST}) {
            two.refuses("give 0 " + n, BAD);
        }
        two.due("give 0 1", 1);
        two.due("give 0 1000000", 1000000);
        two.due("give 1 1", 78);
        for (int fund : new int[] {LEAST, -1, 2, 5, MOST}) {
            two.refuses("give " + fund + " 1", BAD);
            two.refuses("give " + fund + " 0", BAD);
        }
        two.then("give 0 5").due("fundTold 1 1", 77);
    }

    /** 3: FULL: it would have been given more than 10000000. */
    private static void giveUpToTheMost() {
        Story nine = NEW.then("fund 1", "fund 2").times(9, "give 0 1000000");
        nine.due("give 0 1000000", 10000000);
        nine.due("give 0 999999", 9999999);
        Story oneLess = nine.then("give 0 999999");
        oneLess.due("give 0 1", 10000000);
        oneLess.refuses("give 0 2", FULL);
        oneLess.refuses("give 0 1000000", FULL);
        Story most = oneLess.then("give 0 1");
        most.refuses("give 0 1", FULL);
        most.refuses("give 0 1000000", FULL);
        most.refuses("give 0 0", BAD);
        most.refuses("give 0 1000001", BAD);
        most.due("give 1 1000000", 1000000);
        most.due("fundTold 0 1", 10000000);
    }

    /** 3: COINS that it was given, not those that are LEFT; but LEFT is answered. */
    private static void giveCountsWhatWasGiven() {
        Story granted = NEW.then("fund 1").times(9, "give 0 1000000").then("give 0 999999",
                "reader 1 0 6", "ask 1 9 0 0 4999 0", "deal", "mark 0 0 50", "grant 0 0 1 1 0");
        granted.due("give 0 1", 10000000 - 4999);
        granted.refuses("give 0 2", FULL);
        Story paid = granted.then("proof 0 0");
        paid.due("give 0 1", 10000000 - 4999);
        paid.refuses("give 0 2", FULL);
        Story back = paid.then("back 0 4999");
        back.due("give 0 1", 10000000);
        back.refuses("give 0 2", FULL);
    }

    /** 1: LEFT, PROMISED and PAID make those given. */
    private static void givenIsLeftPromisedAndPaid() {
        Story some = NEW.then("fund 1", "give 0 1000", "reader 1 0 6", "ask 1 9 0 0 100 0", "deal", "mark 0 0 50");
        money(some, 1000, 1000, 0, 0);
        Story granted = some.then("grant 0 0 3 10 0");
        money(granted, 1000, 900, 100, 0);
        Story paid = granted.then("proof 0 0");
        money(paid, 1000, 900, 67, 33);
        Story late = paid.then("proof 0 15");
        money(late, 1000, 905, 34, 61);
        money(late.then("stop 0"), 1000, 939, 0, 61);
        money(late.then("back 0 61"), 1000, 966, 34, 0);
        money(late.then("stop 0", "back 0 1", "give 0 1"), 1001, 941, 0, 60);
    }

    private static void money(Story story, int given, int left, int promised, int paid) {
        story.due("fundTold 0 1", given);
        story.due("fundTold 0 2", left);
        story.due("fundTold 0 3", promised);
        story.due("fundTold 0 4", paid);
    }

    /** 4: BAD. */
    private static void fundTold() {
        Story two = NEW.then("fund 63", "fund 5", "give 1 70");
        int[] due = {5, 70, 70, 0, 0};
        for (int what = 0; what < due.length; what++) {
            two.due("fundTold 1 " + what, due[what]);
        }
        for (int what : new int[] {LEAST, -1, 5, MOST}) {
            two.refuses("fundTold 1 " + what, BAD);
        }
        for (int fund : new int[] {LEAST, -1, 2, 5, MOST}) {
            two.refuses("fundTold " + fund + " 0", BAD);
            two.refuses("fundTold " + fund + " 5", BAD);
        }
    }

    /** 5: BAD; THEMES are 0 .. 5, HOUSES 0 .. 9, a LOAD 1 .. 6. */
    private static void readerNumbers() {
        int[][] good = {{0, 0, 1}, {63, 0, 1}, {0, 9, 1}, {0, 0, 6}, {63, 9, 6}};
        for (int[] g : good) {
            String call = "reader " + g[0] + " " + g[1] + " " + g[2];
            NEW.due(call, 0);
            NEW.then("reader 1 1 1", call).due("readerTold 1 0", g[0]);
            NEW.then("reader 1 1 1", call).due("readerTold 1 1", g[1]);
            NEW.then("reader 1 1 1", call).due("readerTold 1 2", g[2]);
        }
        for (int beside : new int[] {LEAST, -1, MOST}) {
            NEW.refuses("reader " + beside + " 0 1", BAD);
            NEW.refuses("reader 0 " + beside + " 1", BAD);
            NEW.refuses("reader 0 0 " + beside, BAD);
        }
        NEW.refuses("reader 64 0 1", BAD);
        NEW.refuses("reader 128 0 1", BAD);
        NEW.refuses("reader 0 10 1", BAD);
        NEW.refuses("reader 0 0 0", BAD);
        NEW.refuses("reader 0 0 7", BAD);
    }

    /** READERS (8); 5: FULL. */
    private static void readersFull() {
        Story seven = NEW.times(7, "reader 1 1 1");
        seven.due("reader 63 9 6", 7);
        Story eight = seven.then("reader 63 9 6");
        eight.refuses("reader 1 1 1", FULL);
        eight.refuses("reader 64 1 1", BAD);
        eight.refuses("reader 1 10 1", BAD);
        eight.refuses("reader 1 1 0", BAD);
        eight.refuses("reader 1 1 7", BAD);
        eight.due("count 1", 8);
        eight.due("readerTold 7 0", 63);
        eight.due("readerTold 6 0", 1);
        // the last of all can be dealt, marks and is BARRED as the others are
        Story dealt = eight.then("ask 1 0 0 5 9 0", "deal");
        dealt.due("told 0 7", 128);
        dealt.due("mark 7 0 100", 1);
        dealt.then("mark 7 0 100").due("worth 0 0", 100);
        dealt.then("mark 7 0 100").due("readerTold 7 4", 1);
        dealt.due("bar 7 0", 1);
        dealt.refuses("readerTold 8 0", BAD);
        dealt.refuses("bar 8 0", BAD);
        dealt.refuses("barred 8 0", BAD);
        dealt.refuses("mark 8 0 5", BAD);
    }

    /** 6: BAD. */
    private static void readerTold() {
        Story two = NEW.then("reader 1 2 3", "reader 3 4 5", "ask 1 9 0 1 9 0", "ask 1 9 0 1 9 0", "deal",
                "mark 1 0 5");
        int[] due = {3, 4, 5, 2, 1};
        for (int what = 0; what < due.length; what++) {
            two.due("readerTold 1 " + what, due[what]);
        }
        two.due("readerTold 0 3", 0);
        two.due("readerTold 0 4", 0);
        for (int what : new int[] {LEAST, -1, 5, MOST}) {
            two.refuses("readerTold 1 " + what, BAD);
        }
        for (int reader : new int[] {LEAST, -1, 2, 8, MOST}) {
            two.refuses("readerTold " + reader + " 0", BAD);
            two.refuses("readerTold " + reader + " 5", BAD);
        }
    }

    /** 27: BAD. */
    private static void counts() {
        for (int what : new int[] {LEAST, -1, 8, MOST}) {
            NEW.refuses("count " + what, BAD);
            NEW.then("fund 1", "tape:may").refuses("count " + what, BAD);
        }
        NEW.then("tape:may").due("count 4", 3);
        NEW.then("tape:may", "?text").due("count 4", 0);
        NEW.then("text:may 1;pass 1;late 1;").due("count 3", 2);
        NEW.then("text:may 1;pass 1;late 1;").due("count 4", 0);
        NEW.then("text:may 1;pass 1;late 1;").due("count 7", 0);
        NEW.then("rule:may 1;pass 1;late 1;").due("count 7", 1);
        NEW.then("rule:may 1;pass 1;late 1;", "force 0").due("count 7", 0);
        Story marked = NEW.then("fund 1", "give 0 9", "reader 1 0 6", "reader 1 1 6", "ask 0 9 0 0 9 0", "deal",
                "mark 0 0 50");
        marked.due("count 5", 1);
        marked.then("mark 0 0 51").due("count 5", 1);
        marked.then("mark 1 0 51").due("count 5", 2);
        marked.then("bar 0 0").due("count 5", 0);
        marked.due("count 6", 0);
        marked.then("grant 0 0 1 1 0").due("count 6", 1);
        marked.then("grant 0 0 1 1 0", "proof 0 0").due("count 6", 1);
        marked.then("grant 0 0 1 1 0", "stop 0").due("count 6", 1);
    }
}
