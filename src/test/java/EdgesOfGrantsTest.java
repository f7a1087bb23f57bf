/** The edges of promises 20 to 26: each sentence that names one, by itself. */
public final class EdgesOfGrantsTest {
    private static final Check CHECK = new Check();
    private static final Story NEW = new Story(CHECK);
    private static final int BAD = Story.BAD, STATE = Story.STATE, LEAST = Story.LEAST, MOST = Story.MOST;
    private static final String[] WITH_DAY = {"proof", "due"};

    public static void main(String[] args) {
        fitNoneSuch();
        fitWithWorth();
        fitByTheme();
        fitByPass();
        fitWithoutGrant();
        fitWhateverIsLeft();
        chooseNothing();
        chooseByLeft();
        chooseOfLike();
        chooseOfFourteen();
        chooseCutsEach();
        chooseNothingOfNoWorth();
        grantNumbers();
        grantRefused();
        grantOfAllThatIsLeft();
        parts();
        dueByDay();
        lossAtMost();
        lossThatWraps();
        proofDays();
        proofRefused();
        dueIsWhatProofPays();
        stop();
        stopRefused();
        back();
        backRefused();
        moneyOfItsFund();
        CHECK.end();
    }

    /** An office with one ASKING of a SUM that is FIT, under a text, or TEXT 0 if there is none. */
    private static Story fitting(String rule, int sum) {
        Story begun = rule.isEmpty() ? NEW : NEW.then("rule:" + rule);
        return begun.then("fund 63", "give 0 20000", "reader 63 0 6", "ask 1 9 0 0 " + sum + " 0", "deal",
                "mark 0 0 60");
    }

    private static Story granted(int sum, int parts, int span, int day) {
        return fitting("", sum).then("grant 0 0 " + parts + " " + span + " " + day);
    }

    /** 20, 21: BAD. */
    private static void fitNoneSuch() {
        NEW.refuses("fit 0 0", BAD);
        NEW.refuses("choose 0", BAD);
        NEW.then("fund 1").refuses("fit 0 0", BAD);
        NEW.then("ask 1 9 0 0 1 0").refuses("fit 0 0", BAD);
        Story one = fitting("", 100);
        one.due("fit 0 0", 1);
        one.due("choose 0", 1);
        for (int none : new int[] {LEAST, -1, 1, 5, 14, MOST}) {
            one.refuses("fit " + none + " 0", BAD);
            one.refuses("fit 0 " + none, BAD);
            one.refuses("choose " + none, BAD);
        }
    }

    /** 4: FIT are ASKINGS with WORTH. */
    private static void fitWithWorth() {
        Story asked = NEW.then("rule:may 1;pass 1;late 0;", "fund 1", "give 0 9", "reader 1 0 6", "ask 1 9 0 0 9 0");
        asked.due("fit 0 0", 0);
        asked.then("deal").due("fit 0 0", 0);
        asked.then("deal").due("choose 0", 0);
        asked.then("deal", "mark 0 0 0").due("fit 0 0", 1);
        asked.then("deal", "mark 0 0 0", "bar 0 0").due("fit 0 0", 0);
        asked.then("deal", "mark 0 0 9", "bar 0 0").due("choose 0", 0);
        asked.then("deal", "mark 0 0 9").due("choose 0", 1);
    }

    /** 4: whose THEME is in its END. */
    private static void fitByTheme() {
        for (int theme = 0; theme < 6; theme++) {
            Story one = NEW.then("fund " + (1 << theme), "fund " + (63 - (1 << theme)), "fund 63", "fund 0", "give 0 9",
                    "give 1 9", "give 2 9", "give 3 9", "reader 0 0 6", "ask 1 9 0 " + theme + " 9 0", "deal",
                    "mark 0 0 60");
            int[] due = {1, 0, 1, 0};
            for (int fund = 0; fund < due.length; fund++) {
                one.due("fit " + fund + " 0", due[fund]);
                one.due("choose " + fund, due[fund]);
            }
            one.refuses("grant 1 0 1 1 0", STATE);
            one.refuses("grant 3 0 1 1 0", STATE);
        }
    }

    /** 4: for which pass of their TEXT is not 0. */
    private static void fitByPass() {
        String[] not = {"0", "behind", "not mark", "60-mark", "sum<sum", "4096*4096*256"};
        for (String pass : not) {
            fitting("may 1;pass " + pass + ";late 0;", 100).due("fit 0 0", 0);
            fitting("may 1;pass " + pass + ";late 0;", 100).due("choose 0", 0);
            fitting("may 1;pass " + pass + ";late 0;", 100).refuses("grant 0 0 1 1 0", STATE);
        }
        for (String pass : new String[] {"1", "-1", "mark", "not behind", "59-mark", "2048*2048*512", "readers"}) {
            fitting("may 1;pass " + pass + ";late 0;", 100).due("fit 0 0", 1);
            fitting("may 1;pass " + pass + ";late 0;", 100).due("choose 0", 1);
            fitting("may 1;pass " + pass + ";late 0;", 100).due("grant 0 0 1 1 0", 19900);
        }
        // of THEIR text, not of THE RULE now
        fitting("", 100).then("rule:may 1;pass 0;late 0;").due("fit 0 0", 1);
        fitting("may 1;pass 0;late 0;", 100).then("force 0").due("fit 0 0", 0);
    }

    /** 4: and that have no GRANT. */
    private static void fitWithoutGrant() {
        Story granted = fitting("", 100).then("fund 63", "give 1 5000", "grant 0 0 1 1 0");
        for (Story one : new Story[] {granted, granted.then("proof 0 0"), granted.then("stop 0"),
            granted.then("proof 0 0", "back 0 100")}) {
            one.due("fit 0 0", 0);
            one.due("fit 1 0", 0);
            one.due("choose 1", 0);
            one.refuses("grant 1 0 1 1 0", STATE);
        }
    }

    /** 4: FIT does not ask what is LEFT; a GRANT and CHOSEN do. */
    private static void fitWhateverIsLeft() {
        Story one = NEW.then("fund 1", "reader 1 0 6", "ask 1 9 0 0 100 0", "deal", "mark 0 0 60");
        one.due("fit 0 0", 1);
        one.due("choose 0", 0);
        one.refuses("grant 0 0 1 1 0", STATE);
    }

    /** 21: nothing is FIT, or no COINS are LEFT. */
    private static void chooseNothing() {
        NEW.then("fund 63").due("choose 0", 0);
        NEW.then("fund 63", "give 0 1000").due("choose 0", 0);
        NEW.then("fund 63", "give 0 1000", "ask 1 9 0 0 1 0").due("choose 0", 0);
        fitting("", 4999).then("fund 63").due("choose 1", 0);
        fitting("", 4999).then("grant 0 0 1 1 0").due("choose 0", 0);
    }

    /** Four that are FIT, of SUMS and with WORTHS that are their MARKS: one READER marks them all. */
    private static Story four(int left, int[] sums, int[] marks) {
        Story all = NEW.then("rule:may 1;pass 1;late 0;", "fund 1", "reader 1 0 6");
        if (left > 0) {
            all = all.then("give 0 " + left);
        }
        for (int sum : sums) {
            all = all.then("ask 1 9 0 0 " + sum + " 0");
        }
        all = all.then("deal");
        for (int i = 0; i < marks.length; i++) {
            all = all.then("mark 0 " + i + " " + marks[i]);
        }
        return all;
    }

    /** 4: whose SUMS are at most LEFT together. */
    private static void chooseByLeft() {
        int[] sums = {100, 200, 400, 800};
        int[] marks = {1, 2, 4, 8};
        four(0, sums, marks).due("choose 0", 0);
        four(99, sums, marks).due("choose 0", 0);
        four(100, sums, marks).due("choose 0", 1);
        four(199, sums, marks).due("choose 0", 1);
        four(200, sums, marks).due("choose 0", 2);
        four(299, sums, marks).due("choose 0", 2);
        four(300, sums, marks).due("choose 0", 3);
        four(799, sums, marks).due("choose 0", 7);
        four(800, sums, marks).due("choose 0", 8);
        four(1499, sums, marks).due("choose 0", 14);
        four(1500, sums, marks).due("choose 0", 15);
        four(1000000, sums, marks).due("choose 0", 15);
        // LEFT, not what was given
        four(1500, sums, marks).then("grant 0 0 1 1 0").due("choose 0", 14);
        four(1499, sums, marks).then("grant 0 0 1 1 0").due("choose 0", 12);
        four(1499, sums, marks).then("grant 0 0 1 1 0", "stop 0").due("choose 0", 14);
    }

    /** 4: of like ones the one whose SUMS are less; of like ones the least (bits). */
    private static void chooseOfLike() {
        int[] same = {50, 50, 50, 50};
        four(50, new int[] {30, 20, 25, 40}, same).due("choose 0", 6);
        four(45, new int[] {30, 20, 25, 40}, same).due("choose 0", 6);
        four(44, new int[] {30, 20, 25, 40}, same).due("choose 0", 2);
        four(50, new int[] {30, 20, 31, 40}, same).due("choose 0", 3);
        four(30, new int[] {30, 30, 30, 30}, same).due("choose 0", 1);
        four(60, new int[] {30, 30, 30, 30}, same).due("choose 0", 3);
        four(90, new int[] {30, 30, 30, 30}, same).due("choose 0", 7);
        // 0 and 3 cost as much as 1 and 2: 9 is more than 6
        four(50, new int[] {10, 20, 30, 40}, new int[] {10, 20, 30, 40}).due("choose 0", 6);
        // one alone, or two together: the same WORTH and SUMS
        four(30, new int[] {30, 10, 20, 31}, new int[] {30, 10, 20, 90}).due("choose 0", 1);
        four(30, new int[] {10, 20, 30, 31}, new int[] {10, 20, 30, 90}).due("choose 0", 3);
        four(30, new int[] {20, 30, 10, 31}, new int[] {20, 30, 10, 90}).due("choose 0", 2);
        // asked again, after one that had more, or less
        four(30, new int[] {10, 20, 30, 31}, new int[] {10, 20, 30, 90}).then("choose 0").due("choose 0", 3);
        four(30, new int[] {10, 20, 30, 31}, new int[] {10, 20, 30, 90}).then("choose 0", "give 0 1").due("choose 0", 8);
        four(91, new int[] {10, 20, 30, 31}, new int[] {10, 20, 30, 90}).then("choose 0", "grant 0 3 1 1 0",
                "choose 0", "bar 0 2").due("choose 0", 3);
        four(91, new int[] {10, 20, 30, 31}, new int[] {10, 20, 30, 90}).then("choose 0", "fund 0").due("choose 1", 0);
        // more WORTH goes ahead of SUMS that are less
        four(100, new int[] {1, 100, 1, 100}, new int[] {20, 42, 21, 41}).due("choose 0", 2);
        four(100, new int[] {1, 100, 1, 100}, new int[] {20, 41, 21, 41}).due("choose 0", 5);
    }

    /** 4: of all sets, with all fourteen in them. */
    private static void chooseOfFourteen() {
        Story all = NEW.then("rule:may 1;pass 1;late 0;", "fund 1", "give 0 140");
        for (int r = 0; r < 7; r++) {
            all = all.then("reader 0 0 2");
        }
        all = all.times(14, "ask 1 9 0 0 10 0").then("deal");
        for (int i = 0; i < 14; i++) {
            all = all.then("mark " + i % 7 + " " + i + " 50");
        }
        all.due("choose 0", (1 << 14) - 1);
        all.then("choose 0", "grant 0 13 1 1 0").due("choose 0", (1 << 13) - 1);
        all.then("fund 1", "give 1 139").due("choose 1", (1 << 13) - 1);
        all.then("fund 1", "give 1 70").due("choose 1", (1 << 7) - 1);
        all.then("fund 1", "give 1 10").due("choose 1", 1);
        all.then("fund 1", "give 1 9").due("choose 1", 0);
        all.then("bar 0 0", "fund 1", "give 1 139").due("choose 1", (1 << 14) - 2);
        all.then("grant 0 13 4 1 0").due("told 13 12", 10);
    }

    /** 4: the sum of all WORTHS, each cut towards 0. */
    private static void chooseCutsEach() {
        Story all = NEW.then("rule:may 1;pass 1;late 0;", "fund 1", "give 0 30", "reader 1 0 6", "reader 1 0 6",
                "ask 0 9 0 0 10 0", "ask 0 9 0 0 10 0", "ask 0 9 0 0 30 0", "deal");
        // two READERS mark all: WORTHS are the means of two MARKS, 99/2, 99/2 and 99
        Story half = all.then("mark 0 0 49", "mark 1 0 50", "mark 0 1 49", "mark 1 1 50", "mark 0 2 99", "mark 1 2 99");
        half.due("worth 0 0", 99);
        half.due("worth 0 1", 2);
        half.due("worth 2 0", 99);
        half.due("choose 0", 4);
        half.then("mark 0 0 50").due("choose 0", 3);
        half.then("mark 0 0 50", "mark 0 1 50").due("choose 0", 3);
        half.then("mark 0 2 98").due("choose 0", 3);
    }

    /** 4: one whose WORTH is cut to 0, or is below it, only costs its SUM. */
    private static void chooseNothingOfNoWorth() {
        int[] sums = {1, 1, 1, 1};
        four(100, sums, new int[] {0, 0, 0, 0}).due("choose 0", 0);
        four(100, sums, new int[] {1, 0, 0, 0}).due("choose 0", 1);
        four(100, sums, new int[] {0, 0, 0, 1}).due("choose 0", 8);
        // READER 0 is at m / 2 and M is m / 3: WORTHS are 5 m / 6, - m / 6, and m / 3 of READER 1
        Story some = NEW.then("rule:may 1;pass 1;late 0;", "fund 1", "give 0 30", "reader 1 0 6", "reader 0 1 1",
                "ask 1 9 0 0 1 0", "ask 1 9 0 0 1 0", "ask 1 0 0 0 1 0", "deal", "mark 0 1 0", "mark 1 2 0");
        int[][] due = {{0, 0}, {1, 0}, {2, 1}, {3, 5}, {6, 5}, {60, 5}};
        for (int[] m : due) {
            some.then("mark 0 0 " + m[0]).due("choose 0", m[1]);
        }
        some.then("mark 0 0 60").due("worth 1 0", -10);
        some.then("mark 0 0 60").due("fit 0 1", 1);
    }

    /** 22: BAD; PARTS (1 .. 4), SPAN (1 .. 100), DAYS 0 .. 999. */
    private static void grantNumbers() {
        Story one = fitting("", 100);
        String[] good = {"1 1 0", "4 1 0", "1 100 0", "1 1 999", "4 100 999"};
        for (String numbers : good) {
            one.due("grant 0 0 " + numbers, 19900);
        }
        String[] bad = {"0 1 0", "5 1 0", "-1 1 0", "1 0 0", "1 101 0", "1 -1 0", "1 1 -1", "1 1 1000", "0 0 -1"};
        for (String numbers : bad) {
            one.refuses("grant 0 0 " + numbers, BAD);
            // ahead of STATE: not FIT, as it has a GRANT; SUM above LEFT
            one.then("grant 0 0 1 1 0").refuses("grant 0 0 " + numbers, BAD);
            one.then("fund 63").refuses("grant 1 0 " + numbers, BAD);
        }
        for (int far : new int[] {LEAST, MOST}) {
            one.refuses("grant 0 0 " + far + " 1 0", BAD);
            one.refuses("grant 0 0 1 " + far + " 0", BAD);
            one.refuses("grant 0 0 1 1 " + far, BAD);
        }
        for (int none : new int[] {LEAST, -1, 1, 5, 14, MOST}) {
            one.refuses("grant " + none + " 0 1 1 0", BAD);
            one.refuses("grant 0 " + none + " 1 1 0", BAD);
        }
    }

    /** 22: STATE: it is not FIT, or its SUM is above LEFT. */
    private static void grantRefused() {
        Story one = NEW.then("fund 1", "fund 2", "give 0 100", "give 1 100", "reader 1 0 6", "ask 1 9 0 0 100 0");
        one.refuses("grant 0 0 1 1 0", STATE);
        one.then("deal").refuses("grant 0 0 1 1 0", STATE);
        one.then("deal", "mark 0 0 49").refuses("grant 0 0 1 1 0", STATE);
        one.then("deal", "mark 0 0 50").due("grant 0 0 1 1 0", 0);
        one.then("deal", "mark 0 0 50").refuses("grant 1 0 1 1 0", STATE);
        one.then("deal", "mark 0 0 50", "bar 0 0").refuses("grant 0 0 1 1 0", STATE);
        one.then("deal", "mark 0 0 50", "give 0 900", "grant 0 0 1 1 0").refuses("grant 0 0 1 1 0", STATE);
    }

    /** 22: its SUM is above LEFT; what is LEFT of the FUND. */
    private static void grantOfAllThatIsLeft() {
        Story one = NEW.then("fund 1", "reader 1 0 6", "ask 1 9 0 0 100 0", "deal", "mark 0 0 60");
        one.refuses("grant 0 0 1 1 0", STATE);
        one.then("give 0 99").refuses("grant 0 0 1 1 0", STATE);
        one.then("give 0 100").due("grant 0 0 1 1 0", 0);
        one.then("give 0 101").due("grant 0 0 1 1 0", 1);
        // what is PROMISED or PAID already is not LEFT
        Story two = NEW.then("fund 1", "give 0 199", "reader 1 0 6", "ask 1 9 0 0 100 0", "ask 1 9 0 0 100 0", "deal",
                "mark 0 0 60", "mark 0 1 60", "grant 0 0 1 1 0");
        two.refuses("grant 0 1 1 1 0", STATE);
        two.then("give 0 1").due("grant 0 1 1 1 0", 0);
        two.then("proof 0 0").refuses("grant 0 1 1 1 0", STATE);
        two.then("proof 0 1").due("grant 0 1 1 1 0", 0);
        two.then("proof 0 0", "back 0 1").due("grant 0 1 1 1 0", 0);
        two.then("stop 0").due("grant 0 1 1 1 0", 99);
    }

    /** 4: in PARTS: each SUM by PARTS (cut), the last one with the rest. */
    private static void parts() {
        int[] sums = {1, 2, 3, 4, 5, 7, 8, 99, 100, 101, 4999, 9999};
        for (int sum : sums) {
            for (int parts = 1; parts <= 4; parts++) {
                Story one = fitting("may 1;pass 1;late 0;", sum).then("grant 0 0 " + parts + " 1 0");
                int rest = sum;
                for (int k = 0; k < parts; k++) {
                    int part = k == parts - 1 ? rest : sum / parts;
                    one.due("due 0 999", part);
                    one.due("proof 0 999", part);
                    one.due("stop 0", rest);
                    one.due("told 0 10", k);
                    one.due("told 0 11", sum - rest);
                    one.due("told 0 12", rest);
                    one = one.then("proof 0 999");
                    rest -= part;
                }
                one.refuses("proof 0 0", STATE);
                one.refuses("due 0 0", STATE);
                one.refuses("stop 0", STATE);
                one.due("told 0 10", parts);
                one.due("told 0 11", sum);
                one.due("told 0 12", 0);
                one.due("back 0 " + sum, 0);
            }
        }
    }

    /** 4: DUE of PART k (from 0 on): DAY of the GRANT and k times SPAN; at least 0. */
    private static void dueByDay() {
        int[][] spans = {{0, 1}, {0, 100}, {500, 7}, {500, 100}, {999, 1}, {999, 100}, {698, 100}, {699, 100}};
        for (int[] s : spans) {
            Story one = granted(4000, 4, s[1], s[0]);
            for (int k = 0; k < 4; k++) {
                int due = s[0] + k * s[1];
                for (int day : new int[] {0, due - 1, due, due + 1, due + 50, 999}) {
                    if (day >= 0 && day <= 999) {
                        one.due("due 0 " + day, 1000 - Math.max(0, day - due));
                        one.due("proof 0 " + day, 1000 - Math.max(0, day - due));
                    }
                }
                one = one.then("proof 0 " + Math.min(999, due));
            }
        }
        // ahead of time it is 0 DAYS behind, not less
        String[][] late = {{"behind+5", "95"}, {"5-behind", "95"}, {"-behind", "100"}, {"behind*behind", "100"},
            {"behind<0", "100"}, {"behind=0", "99"}};
        for (String[] one : late) {
            Story early = fitting("may 1;pass 1;late " + one[0] + ";", 100).then("grant 0 0 1 10 500");
            for (int day : new int[] {0, 1, 498, 499, 500}) {
                early.due("due 0 " + day, Integer.parseInt(one[1]));
                early.due("proof 0 " + day, Integer.parseInt(one[1]));
            }
        }
        // a late PROOF does not move what is DUE later, nor does one ahead of time
        granted(4000, 4, 10, 100).then("proof 0 105").due("due 0 111", 999);
        granted(4000, 4, 10, 100).then("proof 0 0").due("due 0 111", 999);
        // all PARTS may be proven on one DAY
        granted(4000, 4, 10, 100).then("proof 0 130", "proof 0 130", "proof 0 130").due("proof 0 130", 1000);
        granted(4000, 4, 10, 100).then("proof 0 130", "proof 0 130", "proof 0 130").due("told 0 11", 970 + 980 + 990);
    }

    /** 4: a loss, at least 0, at most the PART: the PART less it is PAID, the loss goes back to LEFT. */
    private static void lossAtMost() {
        int[][] late = {{-9999, 0}, {-1, 0}, {0, 0}, {1, 1}, {49, 49}, {50, 50}, {51, 50}, {9999, 50}};
        for (int[] loss : late) {
            Story one = fitting("may 1;pass 1;late " + loss[0] + ";", 100).then("grant 0 0 2 10 0");
            one.due("due 0 0", 50 - loss[1]);
            one.due("proof 0 0", 50 - loss[1]);
            Story paid = one.then("proof 0 0");
            paid.due("told 0 10", 1);
            paid.due("told 0 11", 50 - loss[1]);
            paid.due("told 0 12", 50);
            paid.due("fundTold 0 1", 20000);
            paid.due("fundTold 0 2", 19900 + loss[1]);
            paid.due("fundTold 0 3", 50);
            paid.due("fundTold 0 4", 50 - loss[1]);
            // also of one in time, and of the last PART
            paid.then("proof 0 0").due("told 0 11", 2 * (50 - loss[1]));
            paid.then("proof 0 0").due("fundTold 0 3", 0);
        }
        // by days, to the last COIN of the PART and beyond
        Story one = granted(100, 1, 1, 10);
        int[][] days = {{0, 100}, {10, 100}, {11, 99}, {109, 1}, {110, 0}, {111, 0}, {999, 0}};
        for (int[] day : days) {
            one.due("due 0 " + day[0], day[1]);
            one.due("proof 0 " + day[0], day[1]);
            one.then("proof 0 " + day[0]).due("fundTold 0 2", 20000 - day[1]);
        }
        one.then("proof 0 110").due("told 0 10", 1);
        one.then("proof 0 110").refuses("proof 0 0", STATE);
        one.then("proof 0 110").refuses("back 0 1", BAD);
    }

    /** 2, 4: late is an int that wraps: below 0 it is no loss, above 0 all of the PART. */
    private static void lossThatWraps() {
        String[][] late = {{"2048*2048*512", "100"}, {"2048*2048*512-1", "0"}, {"-(2048*2048*512)", "100"},
            {"4096*4096*256", "100"}, {"4096*4096*256+7", "93"}, {"behind*2048*2048*512", "100"},
            {"behind*2048*2048*512-1", "0"}, {"behind*4096*4096*256+1", "99"}};
        for (String[] one : late) {
            Story some = fitting("may 1;pass 1;late " + one[0] + ";", 100).then("grant 0 0 1 10 0");
            some.due("due 0 1", Integer.parseInt(one[1]));
            some.due("proof 0 1", Integer.parseInt(one[1]));
        }
    }

    /** 23, 24: on a DAY; BAD. */
    private static void proofDays() {
        Story one = granted(100, 2, 10, 5);
        for (String call : WITH_DAY) {
            one.due(call + " 0 0", 50);
            one.due(call + " 0 999", 0);
            for (int day : new int[] {LEAST, -1, 1000, MOST}) {
                one.refuses(call + " 0 " + day, BAD);
                // ahead of STATE: no GRANT, no PART
                fitting("", 100).refuses(call + " 0 " + day, BAD);
                one.then("stop 0").refuses(call + " 0 " + day, BAD);
                one.then("proof 0 0", "proof 0 0").refuses(call + " 0 " + day, BAD);
            }
            for (int none : new int[] {LEAST, -1, 1, 14, MOST}) {
                one.refuses(call + " " + none + " 0", BAD);
                one.refuses(call + " " + none + " 1000", BAD);
            }
        }
    }

    /** 23, 24: STATE: no GRANT, or no PART is to be paid. */
    private static void proofRefused() {
        for (String call : WITH_DAY) {
            fitting("", 100).refuses(call + " 0 0", STATE);
            NEW.then("ask 1 9 0 0 1 0").refuses(call + " 0 0", STATE);
            granted(100, 1, 1, 0).then("proof 0 0").refuses(call + " 0 0", STATE);
            granted(100, 4, 1, 0).then("proof 0 0", "proof 0 0", "proof 0 0").due(call + " 0 0", 25);
            granted(100, 4, 1, 0).then("proof 0 0", "proof 0 0", "proof 0 0", "proof 0 0").refuses(call + " 0 0", STATE);
            granted(100, 4, 1, 0).then("stop 0").refuses(call + " 0 0", STATE);
            granted(100, 4, 1, 0).then("proof 0 0", "stop 0").refuses(call + " 0 0", STATE);
            // PARTS of 0 COINS, and PARTS that are lost, are to be paid
            granted(1, 4, 1, 0).due(call + " 0 0", 0);
            granted(1, 4, 1, 0).then("proof 0 0", "proof 0 0", "proof 0 0").due(call + " 0 0", 1);
            granted(100, 2, 1, 0).then("proof 0 999").due(call + " 0 0", 50);
            granted(100, 2, 1, 0).then("proof 0 999", "proof 0 999").refuses(call + " 0 0", STATE);
        }
    }

    /** 24: What the next PROOF on a DAY would pay: asked, it changes nothing. */
    private static void dueIsWhatProofPays() {
        Story one = granted(100, 3, 10, 0);
        one.then("due 0 20", "due 0 999").due("proof 0 20", 13);
        one.then("due 0 20").due("told 0 12", 100);
        one.then("due 0 20").due("told 0 10", 0);
        one.then("due 0 20").due("fundTold 0 2", 19900);
    }

    /** 4: STOPPED: what is PROMISED still goes back to LEFT; 25: what went back. */
    private static void stop() {
        Story one = granted(103, 4, 10, 0);
        one.due("stop 0", 103);
        one.then("stop 0").due("fundTold 0 2", 20000);
        one.then("proof 0 0").due("stop 0", 78);
        one.then("proof 0 0", "stop 0").due("fundTold 0 2", 19975);
        one.then("proof 0 0", "stop 0").due("fundTold 0 3", 0);
        one.then("proof 0 0", "stop 0").due("fundTold 0 4", 25);
        one.then("proof 0 0", "stop 0").due("told 0 11", 25);
        one.then("proof 0 0", "stop 0").due("told 0 10", 1);
        one.then("proof 0 0", "proof 0 0", "proof 0 0").due("stop 0", 28);
        granted(1, 4, 10, 0).then("proof 0 0", "proof 0 0", "proof 0 0").due("stop 0", 1);
    }

    /** 25: BAD; STATE: no GRANT, or nothing is PROMISED. */
    private static void stopRefused() {
        for (int none : new int[] {LEAST, -1, 1, 14, MOST}) {
            granted(100, 1, 1, 0).refuses("stop " + none, BAD);
        }
        NEW.then("ask 1 9 0 0 1 0").refuses("stop 0", STATE);
        fitting("", 100).refuses("stop 0", STATE);
        granted(100, 1, 1, 0).then("proof 0 0").refuses("stop 0", STATE);
        granted(100, 1, 1, 0).then("proof 0 999").refuses("stop 0", STATE);
        granted(100, 2, 1, 0).then("stop 0").refuses("stop 0", STATE);
        granted(100, 2, 1, 0).then("proof 0 0", "stop 0").refuses("stop 0", STATE);
    }

    /** 4: BACK: COINS that were PAID go back to LEFT; 26: what was PAID and is not BACK then. */
    private static void back() {
        Story one = granted(100, 2, 10, 0).then("proof 0 0");
        one.due("back 0 1", 49);
        one.due("back 0 49", 1);
        one.due("back 0 50", 0);
        one.then("back 0 1").due("back 0 49", 0);
        one.then("back 0 1").due("fundTold 0 2", 19901);
        one.then("back 0 1").due("fundTold 0 4", 49);
        one.then("back 0 1").due("fundTold 0 3", 50);
        one.then("back 0 1").due("told 0 11", 49);
        one.then("back 0 50").due("told 0 10", 1);
        // what is BACK is not to be paid again, the other PART is
        one.then("back 0 50").due("proof 0 10", 50);
        one.then("back 0 50", "proof 0 10").due("back 0 50", 0);
        one.then("back 0 20", "proof 0 10").due("back 0 80", 0);
        // what was lost was never PAID
        granted(100, 2, 10, 0).then("proof 0 5").due("back 0 45", 0);
        granted(100, 2, 10, 0).then("proof 0 5").refuses("back 0 46", BAD);
        // of one that is STOPPED, too
        one.then("stop 0").due("back 0 50", 0);
        one.then("stop 0", "back 0 50").due("fundTold 0 2", 20000);
    }

    /** 26: BAD: no such, n below 1; STATE: no GRANT; BAD: more than that. */
    private static void backRefused() {
        Story paid = granted(100, 2, 10, 0).then("proof 0 0");
        for (int none : new int[] {LEAST, -1, 1, 14, MOST}) {
            paid.refuses("back " + none + " 1", BAD);
            paid.refuses("back " + none + " 0", BAD);
        }
        for (int n : new int[] {LEAST, -50, -1, 0, 51, 100, MOST}) {
            paid.refuses("back 0 " + n, BAD);
        }
        paid.then("back 0 50").refuses("back 0 1", BAD);
        paid.then("back 0 20").refuses("back 0 31", BAD);
        granted(100, 2, 10, 0).refuses("back 0 1", BAD);
        granted(100, 2, 10, 0).then("stop 0").refuses("back 0 1", BAD);
        granted(100, 2, 10, 0).then("proof 0 999").refuses("back 0 1", BAD);
        // no GRANT: n below 1 is told ahead of it, more than was PAID behind it
        Story none = fitting("", 100);
        none.refuses("back 0 1", STATE);
        none.refuses("back 0 " + MOST, STATE);
        none.refuses("back 0 0", BAD);
        none.refuses("back 0 " + LEAST, BAD);
    }

    /** 4: LEFT, PROMISED and PAID of the FUND that the GRANT is of; those of others stay. */
    private static void moneyOfItsFund() {
        Story one = fitting("", 100).then("fund 1", "give 1 100", "fund 63", "give 2 7", "grant 1 0 2 10 0");
        String[] after = {"", "proof 0 0", "proof 0 5", "stop 0"};
        for (String call : after) {
            Story then = call.isEmpty() ? one : one.then(call);
            then.due("fundTold 0 2", 20000);
            then.due("fundTold 2 2", 7);
            then.due("fundTold 0 3", 0);
            then.due("fundTold 2 4", 0);
            then.due("told 0 9", 1);
        }
        one.due("fundTold 1 2", 0);
        one.then("proof 0 5").due("fundTold 1 2", 5);
        one.then("proof 0 5").due("fundTold 1 3", 50);
        one.then("proof 0 5").due("fundTold 1 4", 45);
        one.then("proof 0 5", "back 0 5").due("fundTold 1 2", 10);
        one.then("stop 0").due("fundTold 1 2", 100);
    }
}
