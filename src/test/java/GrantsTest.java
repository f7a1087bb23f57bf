/** Promises 20 to 26: who is fit and chosen, grants, proofs, stops and moneys back. */
public final class GrantsTest {
    private static final Check CHECK = new Check();

    public static void main(String[] args) {
        fit();
        choose();
        chooseOfLike();
        chooseOfLittleWorth();
        chooseOfMany();
        grants();
        grantsRefused();
        proofs();
        losses();
        stops();
        backs();
        CHECK.end();
    }

    /** An office with readers of HOUSE 0 for n ASKINGS that need one each, and a FUND with all THEMES. */
    private static GiftOffice office(int coins) {
        GiftOffice x = new GiftOffice();
        x.fund(63);
        x.give(0, coins);
        for (int r = 0; r < 3; r++) {
            x.reader(0, 0, 6);
        }
        return x;
    }

    /** A SMALL one that is dealt and marked; of one READER each, so that WORTHS are apart as MARKS are. */
    private static void marked(GiftOffice x, int theme, int sum, int m) {
        int asking = x.ask(1, 9, 0, theme, sum, 0);
        x.deal();
        for (int r = 0; r < 8; r++) {
            if ((x.told(asking, 7) >> r & 1) != 0) {
                CHECK.due("mark", x.mark(r, asking, m), 1);
            }
        }
    }

    private static void fit() {
        GiftOffice x = new GiftOffice();
        x.fund(2);
        x.fund(4);
        x.give(0, 1000);
        x.give(1, 1000);
        x.reader(0, 0, 6);
        x.reader(0, 0, 6);
        x.ask(1, 9, 0, 1, 100, 0);
        CHECK.due("fit: no WORTH", x.fit(0, 0), 0);
        x.deal();
        x.mark(0, 0, 49);
        CHECK.due("fit: pass is 0", x.fit(0, 0), 0);
        x.mark(0, 0, 50);
        CHECK.due("fit", x.fit(0, 0), 1);
        CHECK.due("fit: THEME is not in END", x.fit(1, 0), 0);
        CHECK.due("fit(2, 0)", x.fit(2, 0), -2);
        CHECK.due("fit(-1, 0)", x.fit(-1, 0), -2);
        CHECK.due("fit(0, 1)", x.fit(0, 1), -2);
        CHECK.due("fit(0, -1)", x.fit(0, -1), -2);
        Check.rule(x, "may 1; pass theme - 5; late 0;");
        x.ask(1, 9, 0, 2, 2000, 0);
        x.deal();
        x.mark(1, 1, 0);
        CHECK.due("fit: pass below 0 is true, SUM does not matter", x.fit(1, 1), 1);
        CHECK.due("fit: TEXT 0 is still that of the first", x.fit(0, 0), 0);
        x.mark(1, 1, 50);
        CHECK.due("fit", x.fit(0, 0), 1);
        CHECK.due("grant", x.grant(0, 0, 1, 1, 0), 900);
        CHECK.due("fit: has a GRANT", x.fit(0, 0), 0);
        x.stop(0);
        CHECK.due("fit: has a GRANT, if a STOPPED one", x.fit(0, 0), 0);
        x.bar(1, 1);
        CHECK.due("fit: the MARK does not count", x.fit(1, 1), 0);
        GiftOffice y = office(100);
        Check.rule(y, "may 1; pass behind; late 0;");
        marked(y, 0, 10, 60);
        CHECK.due("fit: behind is 0", y.fit(0, 0), 0);
        GiftOffice z = office(100);
        Check.rule(z, "may 1; pass sum = 10; late 0;");
        marked(z, 0, 10, 60);
        marked(z, 0, 11, 60);
        CHECK.due("fit: by its own facts", z.fit(0, 0), 1);
        CHECK.due("fit: by its own facts", z.fit(0, 1), 0);
    }

    private static void choose() {
        GiftOffice x = office(100);
        CHECK.due("choose: nothing there", x.choose(0), 0);
        x.reader(0, 0, 6);
        for (int i = 0; i < 4; i++) {
            x.ask(1, 9, 0, i, 40 + i, 0);
        }
        x.deal();
        int[] m = {60, 70, 80, 90};
        for (int i = 0; i < 4; i++) {
            x.mark(i, i, m[i]);
        }
        // one MARK of each READER: all WORTHS are the mean, 75
        CHECK.due("worth(0, 0)", x.worth(0, 0), 75);
        CHECK.due("choose: of like ones the SUMS that are less", x.choose(0), 3);
        x.fund(12);
        x.give(1, 43);
        CHECK.due("choose: of the END, not both", x.choose(1), 4);
        x.give(1, 42);
        CHECK.due("choose: just both", x.choose(1), 12);
        x.fund(63);
        CHECK.due("choose: no COINS", x.choose(2), 0);
        CHECK.due("choose(3)", x.choose(3), -2);
        CHECK.due("choose(-1)", x.choose(-1), -2);
        x.grant(0, 0, 1, 1, 0);
        CHECK.due("choose: of what is LEFT, with no GRANT", x.choose(0), 2);
    }

    private static void chooseOfLike() {
        GiftOffice x = office(100);
        x.reader(0, 0, 6);
        for (int i = 0; i < 4; i++) {
            x.ask(1, 9, 0, 0, 50, 0);
        }
        x.deal();
        for (int i = 0; i < 4; i++) {
            x.mark(i, i, 60);
        }
        CHECK.due("choose: of like ones the least bits", x.choose(0), 3);
        x.bar(0, 0);
        CHECK.due("choose: of like ones the least bits", x.choose(0), 6);
        GiftOffice y = new GiftOffice();
        y.fund(1);
        y.give(0, 100);
        y.reader(0, 0, 6);
        int[] sums = {60, 40, 50, 50};
        for (int i = 0; i < 4; i++) {
            y.ask(1, 9, 0, 0, sums[i], 0);
        }
        y.deal();
        for (int i = 0; i < 4; i++) {
            y.mark(0, i, 70);
        }
        CHECK.due("choose: 40 and 50", y.choose(0), 6);
    }

    private static void chooseOfLittleWorth() {
        GiftOffice x = new GiftOffice();
        Check.rule(x, "may 1; pass 1; late 0;");
        x.force(1);
        x.fund(1);
        x.give(0, 1000);
        x.reader(1, 0, 6);
        x.reader(0, 0, 1);
        int[] m = {100, 0, 1, 30};
        for (int i = 0; i < 4; i++) {
            x.ask(1, 9, 0, 0, 10, 0);
        }
        x.deal();
        for (int i = 0; i < 4; i++) {
            x.mark(0, i, m[i]);
        }
        CHECK.due("choose: a WORTH of 0 costs a SUM", x.choose(0), 1 | 4 | 8);
        x.bar(0, 3);
        x.ask(1, 9, 0, 1, 10, 0);
        x.deal();
        CHECK.due("told(4, 7)", x.told(4, 7), 2);
        x.mark(1, 4, 0);
        // M = 101/4, reader 0 is at 101/3: WORTHS of 1 and 2 are below 0 and cut -8, -7
        CHECK.due("worth(1, 0)", x.worth(1, 0), -101);
        CHECK.due("worth(1, 1)", x.worth(1, 1), 12);
        CHECK.due("choose: WORTHS below 0", x.choose(0), 1);
        least();
    }

    /** WORTH of 1 is worth a SUM, WORTH of 1/2 is cut to 0 and is not; all that is LEFT may go. */
    private static void least() {
        GiftOffice x = office(100);
        Check.rule(x, "may 1; pass 1; late 0;");
        marked(x, 0, 100, 1);
        CHECK.due("choose: a WORTH of 1, all that is LEFT", x.choose(0), 1);
        marked(x, 0, 100, 0);
        CHECK.due("worth(0, 1)", x.worth(0, 1), 2);
        CHECK.due("choose: WORTHS of 1/2", x.choose(0), 0);
        GiftOffice y = office(99);
        Check.rule(y, "may 1; pass 1; late 0;");
        marked(y, 0, 100, 1);
        CHECK.due("choose: more than LEFT", y.choose(0), 0);
    }

    private static void chooseOfMany() {
        GiftOffice x = new GiftOffice();
        Check.rule(x, "may 1; pass 1; late 0;");
        x.fund(63);
        x.give(0, 700);
        for (int r = 0; r < 7; r++) {
            x.reader(0, 0, 2);
        }
        for (int i = 0; i < 14; i++) {
            x.ask(1, 9, 0, 0, 100 + i, 0);
        }
        CHECK.due("deal", x.deal(), 14);
        for (int i = 0; i < 14; i++) {
            for (int r = 0; r < 7; r++) {
                if ((x.told(i, 7) >> r & 1) != 0) {
                    x.mark(r, i, 50);
                }
            }
        }
        CHECK.due("choose: six of fourteen", x.choose(0), 63);
        x.give(0, 21);
        CHECK.due("choose: seven of fourteen", x.choose(0), 127);
        x.give(0, 1000);
        CHECK.due("choose: all", x.choose(0), (1 << 14) - 1);
    }

    private static void grants() {
        GiftOffice x = office(1000);
        marked(x, 0, 100, 60);
        marked(x, 0, 900, 60);
        CHECK.due("grant", x.grant(0, 0, 3, 10, 5), 900);
        int[] due = {63, 1000, 900, 100, 0};
        for (int what = 0; what < due.length; what++) {
            CHECK.due("fundTold(0, " + what + ")", x.fundTold(0, what), due[what]);
        }
        CHECK.due("told(0, 9)", x.told(0, 9), 0);
        CHECK.due("told(0, 10)", x.told(0, 10), 0);
        CHECK.due("told(0, 11)", x.told(0, 11), 0);
        CHECK.due("told(0, 12)", x.told(0, 12), 100);
        CHECK.due("told(1, 9)", x.told(1, 9), -1);
        CHECK.due("grant: all that is LEFT", x.grant(0, 1, 4, 100, 999), 0);
        CHECK.due("count(6)", x.count(6), 2);
        GiftOffice y = office(1000);
        y.fund(1);
        marked(y, 0, 100, 60);
        CHECK.due("grant: SUM is above LEFT", y.grant(1, 0, 1, 1, 0), -3);
        y.give(1, 99);
        CHECK.due("grant: SUM is above LEFT", y.grant(1, 0, 1, 1, 0), -3);
        y.give(1, 1);
        CHECK.due("grant: just LEFT", y.grant(1, 0, 1, 1, 0), 0);
        CHECK.due("told(0, 9)", y.told(0, 9), 1);
    }

    private static void grantsRefused() {
        GiftOffice x = office(1000);
        marked(x, 0, 100, 60);
        int[][] bad = {{-1, 0, 1, 1, 0}, {1, 0, 1, 1, 0}, {0, -1, 1, 1, 0}, {0, 1, 1, 1, 0}, {0, 0, 0, 1, 0},
            {0, 0, 5, 1, 0}, {0, 0, 1, 0, 0}, {0, 0, 1, 101, 0}, {0, 0, 1, 1, -1}, {0, 0, 1, 1, 1000}};
        for (int[] b : bad) {
            CHECK.due("grant: bad", x.grant(b[0], b[1], b[2], b[3], b[4]), -2);
        }
        x.ask(1, 9, 0, 0, 10, 0);
        CHECK.due("grant: not FIT", x.grant(0, 1, 1, 1, 0), -3);
        CHECK.due("grant: BAD ahead of STATE", x.grant(0, 1, 5, 1, 0), -2);
        CHECK.due("count(6)", x.count(6), 0);
        CHECK.due("fundTold(0, 2)", x.fundTold(0, 2), 1000);
        CHECK.due("proof: no GRANT", x.proof(0, 0), -3);
        CHECK.due("due: no GRANT", x.due(0, 0), -3);
        CHECK.due("stop: no GRANT", x.stop(0), -3);
        CHECK.due("back: no GRANT", x.back(0, 1), -3);
    }

    private static void proofs() {
        GiftOffice x = office(1000);
        marked(x, 0, 103, 60);
        x.grant(0, 0, 4, 10, 100);
        // PARTS of 25, 25, 25, 28, DUE on 100, 110, 120, 130
        CHECK.due("due: ahead of time", x.due(0, 0), 25);
        CHECK.due("due: in time", x.due(0, 100), 25);
        CHECK.due("due: a DAY late", x.due(0, 101), 24);
        CHECK.due("due: 24 DAYS late", x.due(0, 124), 1);
        CHECK.due("due: 25 DAYS late", x.due(0, 125), 0);
        CHECK.due("due: most late", x.due(0, 999), 0);
        CHECK.due("due(0, -1)", x.due(0, -1), -2);
        CHECK.due("due(0, 1000)", x.due(0, 1000), -2);
        CHECK.due("due(1, 0)", x.due(1, 0), -2);
        CHECK.due("due(-1, 0)", x.due(-1, 0), -2);
        CHECK.due("proof(0, -1)", x.proof(0, -1), -2);
        CHECK.due("proof(0, 1000)", x.proof(0, 1000), -2);
        CHECK.due("proof(1, 0)", x.proof(1, 0), -2);
        CHECK.due("proof(-1, 0)", x.proof(-1, 0), -2);
        CHECK.due("due changes nothing", x.told(0, 12), 103);
        CHECK.due("proof: in time", x.proof(0, 100), 25);
        told(x, 1, 25, 78, 897);
        CHECK.due("proof: 5 DAYS late", x.proof(0, 115), 20);
        told(x, 2, 45, 53, 902);
        CHECK.due("proof: far too late", x.proof(0, 999), 0);
        told(x, 3, 45, 28, 927);
        CHECK.due("due: the rest", x.due(0, 130), 28);
        CHECK.due("proof: the rest, 3 DAYS late", x.proof(0, 133), 25);
        told(x, 4, 70, 0, 930);
        CHECK.due("proof: no PART", x.proof(0, 0), -3);
        CHECK.due("due: no PART", x.due(0, 0), -3);
        CHECK.due("due: BAD ahead of STATE", x.due(0, -1), -2);
        CHECK.due("proof: BAD ahead of STATE", x.proof(0, 1000), -2);
        CHECK.due("stop: nothing is PROMISED", x.stop(0), -3);
        GiftOffice y = office(1000);
        marked(y, 0, 40, 60);
        y.grant(0, 0, 4, 100, 990);
        y.proof(0, 999);
        CHECK.due("DUE behind the last DAY", y.proof(0, 999), 10);
    }

    /** Of ASKING 0 PARTS that were paid, PAID and PROMISED, and LEFT of FUND 0. */
    private static void told(GiftOffice x, int parts, int paid, int promised, int left) {
        CHECK.due("told(0, 10)", x.told(0, 10), parts);
        CHECK.due("told(0, 11)", x.told(0, 11), paid);
        CHECK.due("told(0, 12)", x.told(0, 12), promised);
        CHECK.due("fundTold(0, 2)", x.fundTold(0, 2), left);
        CHECK.due("fundTold(0, 3)", x.fundTold(0, 3), promised);
        CHECK.due("fundTold(0, 4)", x.fundTold(0, 4), paid);
        CHECK.due("fundTold(0, 1)", x.fundTold(0, 1), left + paid + promised);
    }

    private static void losses() {
        GiftOffice x = office(1000);
        Check.rule(x, "may 1; pass 1; late 2 - behind;");
        marked(x, 0, 30, 60);
        x.grant(0, 0, 3, 10, 100);
        CHECK.due("due: a loss with no DAY behind", x.due(0, 50), 8);
        CHECK.due("due: a loss below 0 is 0", x.due(0, 110), 10);
        CHECK.due("proof: a loss with no DAY behind", x.proof(0, 0), 8);
        CHECK.due("proof: behind DUE, which is a SPAN more", x.proof(0, 111), 9);
        CHECK.due("fundTold(0, 2)", x.fundTold(0, 2), 973);
        GiftOffice y = office(1000);
        Check.rule(y, "may 1; pass 1; late mark + readers;");
        marked(y, 0, 100, 30);
        y.grant(0, 0, 1, 1, 0);
        CHECK.due("due: a loss by WORTH and READERS", y.due(0, 0), 69);
        y.force(0);
        CHECK.due("due: its own TEXT", y.due(0, 0), 69);
        CHECK.due("mark", y.mark(0, 0, 40), 1);
        CHECK.due("due: as WORTH is now", y.due(0, 0), 59);
        y.bar(0, 0);
        CHECK.due("due: no WORTH", y.due(0, 0), 100);
        tinyParts();
    }

    private static void tinyParts() {
        GiftOffice x = office(1000);
        marked(x, 0, 3, 60);
        CHECK.due("grant", x.grant(0, 0, 4, 1, 10), 997);
        for (int i = 0; i < 3; i++) {
            CHECK.due("proof: a PART of 0", x.proof(0, 0), 0);
        }
        CHECK.due("told(0, 10)", x.told(0, 10), 3);
        CHECK.due("proof: a day late", x.proof(0, 14), 2);
        CHECK.due("proof: none to be paid", x.proof(0, 0), -3);
        CHECK.due("told(0, 10)", x.told(0, 10), 4);
        GiftOffice y = office(1000);
        marked(y, 0, 1, 60);
        y.grant(0, 0, 2, 1, 10);
        CHECK.due("proof: a PART of 0", y.proof(0, 0), 0);
        CHECK.due("due: a PART of 1", y.due(0, 0), 1);
        CHECK.due("stop: 1 goes back", y.stop(0), 1);
    }

    private static void stops() {
        GiftOffice x = office(1000);
        marked(x, 0, 100, 60);
        CHECK.due("stop(1)", x.stop(1), -2);
        CHECK.due("stop(-1)", x.stop(-1), -2);
        x.grant(0, 0, 2, 1, 0);
        x.proof(0, 0);
        CHECK.due("stop", x.stop(0), 50);
        told(x, 1, 50, 0, 950);
        CHECK.due("stop: STOPPED", x.stop(0), -3);
        CHECK.due("proof: STOPPED", x.proof(0, 0), -3);
        CHECK.due("due: STOPPED", x.due(0, 0), -3);
        CHECK.due("back: STOPPED", x.back(0, 20), 30);
        told(x, 1, 30, 0, 970);
        CHECK.due("told(0, 9): the GRANT stays", x.told(0, 9), 0);
        CHECK.due("grant: has a GRANT", x.grant(0, 0, 1, 1, 0), -3);
        CHECK.due("count(6)", x.count(6), 1);
    }

    private static void backs() {
        GiftOffice x = office(1000);
        marked(x, 0, 100, 60);
        CHECK.due("back(1, 1)", x.back(1, 1), -2);
        CHECK.due("back(-1, 1)", x.back(-1, 1), -2);
        CHECK.due("back: BAD ahead of STATE", x.back(0, 0), -2);
        CHECK.due("back: STATE ahead of more than that", x.back(0, 1000), -3);
        x.grant(0, 0, 2, 1, 0);
        CHECK.due("back: nothing was PAID", x.back(0, 1), -2);
        x.proof(0, 0);
        CHECK.due("back: more than that", x.back(0, 51), -2);
        CHECK.due("back(0, 0)", x.back(0, 0), -2);
        CHECK.due("back(0, -1)", x.back(0, -1), -2);
        CHECK.due("back(0, MAX)", x.back(0, Integer.MAX_VALUE), -2);
        CHECK.due("back(0, 20)", x.back(0, 20), 30);
        told(x, 1, 30, 50, 920);
        CHECK.due("back(0, 31)", x.back(0, 31), -2);
        CHECK.due("back(0, 30)", x.back(0, 30), 0);
        told(x, 1, 0, 50, 950);
        CHECK.due("proof: the last PART all the same", x.proof(0, 1), 50);
        told(x, 2, 50, 0, 950);
    }
}
