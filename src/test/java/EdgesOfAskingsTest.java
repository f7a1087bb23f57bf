/** The edges of promises 7 and 9: each sentence that names one, by itself. */
public final class EdgesOfAskingsTest {
    private static final Check CHECK = new Check();
    private static final Story NEW = new Story(CHECK);
    private static final Story ALL_MAY = NEW.then("rule:may 1;pass 1;late 1;");
    private static final int BAD = Story.BAD, STATE = Story.STATE, FULL = Story.FULL;
    private static final int LEAST = Story.LEAST, MOST = Story.MOST;
    /** An ASKING as it may come, and for each of its numbers the last that are taken and the first refused. */
    private static final int[] PLAIN = {3, 4, 5, 2, 100, 300};
    private static final int[] FIRST = {0, 0, 0, 0, 1, 0};
    private static final int[] LAST = {5, 9, 9, 5, 9999, 999};

    public static void main(String[] args) {
        numbersTaken();
        numbersRefused();
        secondOfNoJoint();
        mayOfTheRule();
        mayThatWraps();
        stateAheadOfFull();
        full();
        needs();
        told();
        toldOfNothingYet();
        textWhenItCame();
        CHECK.end();
    }

    private static String ask(int at, int value) {
        StringBuilder s = new StringBuilder("ask");
        for (int i = 0; i < PLAIN.length; i++) {
            s.append(' ').append(i == at ? value : PLAIN[i]);
        }
        return s.toString();
    }

    /** 7: its number; the last values that are taken. */
    private static void numbersTaken() {
        for (int at = 0; at < PLAIN.length; at++) {
            for (int value : new int[] {FIRST[at], LAST[at]}) {
                ALL_MAY.due(ask(at, value), 0);
                boolean joint = at != 0;
                for (int what = 0; what < PLAIN.length; what++) {
                    int due = what == at ? value : what == 2 && !joint ? -1 : PLAIN[what];
                    ALL_MAY.then(ask(-1, 0), ask(at, value)).due("told 1 " + what, due);
                }
            }
        }
    }

    /** 7: BAD: a KIND, HOUSE (the second one of a JOINT, too), THEME, SUM, DAY. */
    private static void numbersRefused() {
        for (int at = 0; at < PLAIN.length; at++) {
            for (int value : new int[] {LEAST, FIRST[at] - 1, LAST[at] + 1, MOST}) {
                ALL_MAY.refuses(ask(at, value), BAD);
                ALL_MAY.then(ask(-1, 0)).refuses(ask(at, value), BAD);
            }
        }
    }

    /** 1: a second one (of a JOINT; else it does not matter). */
    private static void secondOfNoJoint() {
        for (int kind = 0; kind < 6; kind++) {
            for (int second : new int[] {LEAST, -1, 0, 9, 10, MOST}) {
                String call = "ask " + kind + " 4 " + second + " 0 1 0";
                if (kind == 3 && (second < 0 || second > 9)) {
                    ALL_MAY.refuses(call, BAD);
                } else {
                    ALL_MAY.due(call, 0);
                    ALL_MAY.then(call).due("told 0 2", kind == 3 ? second : -1);
                    ALL_MAY.then(call, "reader 0 0 1").due("barred 0 0", kind == 3 && second == 0 ? 1 : 0);
                }
            }
        }
        // both HOUSES of a JOINT may be one
        ALL_MAY.due("ask 3 4 4 0 1 0", 0);
    }

    /** 7: STATE: may of THE RULE is 0 for it; TEXT 0: may sum < 5000. */
    private static void mayOfTheRule() {
        NEW.due("ask 0 0 0 0 4999 0", 0);
        NEW.refuses("ask 0 0 0 0 5000 0", STATE);
        NEW.refuses("ask 0 0 0 0 9999 0", STATE);
        NEW.refuses("ask 0 0 0 0 10000 0", BAD);
        for (String may : new String[] {"0", "behind", "mark", "readers", "not 1", "kind - 1", "theme - 2"}) {
            NEW.then("rule:may " + may + ";pass 1;late 1;").refuses("ask 1 2 0 2 4 5", STATE);
        }
        for (String may : new String[] {"1", "-1", "9999", "not 0", "kind", "sum", "theme", "day"}) {
            NEW.then("rule:may " + may + ";pass 0;late 0;").due("ask 1 2 0 2 4 5", 0);
        }
        // of it alone: one that came ahead has WORTH, MARKS and DAYS behind
        Story ahead = NEW.then("rule:may not day + mark + readers + behind;pass 1;late behind;", "reader 0 0 6",
                "ask 1 9 0 0 1 0", "deal", "mark 0 0 77", "says 0 2 9");
        ahead.then("says 0 1 0").refuses("ask 1 9 0 0 1 1", STATE);
        ahead.then("says 0 2 9").refuses("ask 1 9 0 0 1 1", STATE);
        ahead.then("says 0 2 9").due("ask 1 9 0 0 1 0", 1);
        // a TEXT that is not THE RULE does not matter
        NEW.then("text:may 0;pass 1;late 1;").due("ask 0 0 0 0 4999 0", 0);
        NEW.then("text:may 1;pass 1;late 1;").refuses("ask 0 0 0 0 5000 0", STATE);
        NEW.then("rule:may 0;pass 1;late 1;", "force 0").due("ask 0 0 0 0 4999 0", 0);
    }

    /** 2: An E is an int (32 bits, wrapping), also of numbers of an ASKING. */
    private static void mayThatWraps() {
        // 4096 * 4096 * 256 is 2 to the 32nd, which is 0
        Story wraps = NEW.then("rule:may sum * 4096 * 256; pass 1; late 1;");
        wraps.refuses("ask 0 0 0 0 4096 0", STATE);
        wraps.due("ask 0 0 0 0 4095 0", 0);
        // 2 to the 31st is below 0, one less is not
        Story least = NEW.then("rule:may sum * 2048 * 512 + day < 0; pass 1; late 1;");
        least.due("ask 0 0 0 0 2048 0", 0);
        least.refuses("ask 0 0 0 0 2047 0", STATE);
        Story most = NEW.then("rule:may 0 < sum * 2048 * 512 - day; pass 1; late 1;");
        most.refuses("ask 0 0 0 0 2048 0", STATE);
        most.due("ask 0 0 0 0 2048 1", 0);
    }

    /** 7: BAD, STATE, FULL: the first that the call's words name. */
    private static void stateAheadOfFull() {
        NEW.refuses("ask 6 0 0 0 5000 0", BAD);
        NEW.refuses("ask 0 0 0 6 5000 0", BAD);
        NEW.refuses("ask 3 0 10 0 5000 0", BAD);
        NEW.refuses("ask 0 0 0 0 5000 1000", BAD);
        Story full = NEW.times(14, "ask 0 0 0 0 4999 0");
        full.refuses("ask 0 0 0 0 4999 0", FULL);
        full.refuses("ask 0 0 0 0 5000 0", STATE);
        full.refuses("ask 0 0 0 0 10000 0", BAD);
        full.refuses("ask 6 0 0 0 4999 0", BAD);
        full.refuses("ask 6 0 0 0 5000 0", BAD);
        full.refuses("ask 3 0 -1 0 5000 0", BAD);
    }

    /** ASKINGS (14); 7: FULL. */
    private static void full() {
        Story thirteen = NEW.times(13, "ask 1 0 0 0 1 0");
        thirteen.due("ask 2 9 0 5 4999 999", 13);
        Story full = thirteen.then("ask 2 9 0 5 4999 999", "reader 0 1 6", "reader 32 2 6", "reader 0 3 6");
        full.due("count 2", 14);
        full.due("told 13 3", 5);
        full.due("taken 13 2", 9);
        full.due("bar 0 13", 1);
        full.due("places", 13 + 3);
        full.then("deal").due("told 13 6", 3);
        for (String call : new String[] {"told 14 0", "bar 0 14", "barred 0 14", "mark 0 14 5", "proof 14 0", "due 14 0",
            "stop 14", "back 14 1"}) {
            full.refuses(call, BAD);
        }
        full.refuses("says 14 0 0", Story.NO);
        full.refuses("worth 14 0", Story.NO);
        full.refuses("taken 14 0", Story.NOTHING);
        full.refuses("ask 1 0 0 0 1 0", FULL);
    }

    /** 1: NEED of each KIND. */
    private static void needs() {
        int[] needs = {2, 1, 3, 3, 2, 1};
        for (int kind = 0; kind < needs.length; kind++) {
            Story one = NEW.then("ask " + kind + " 0 0 0 1 0");
            one.due("told 0 6", needs[kind]);
            Story less = one.times(needs[kind] - 1, "reader 0 1 1");
            less.due("deal", 0);
            less.due("places", needs[kind] - 1);
            less.then("deal").due("told 0 7", 0);
            Story just = one.times(needs[kind], "reader 0 1 1");
            just.due("deal", 1);
            just.due("places", needs[kind]);
            just.then("deal").due("told 0 7", (1 << needs[kind]) - 1);
            Story more = one.times(needs[kind] + 1, "reader 0 1 1");
            more.due("places", needs[kind]);
            more.then("deal").due("told 0 7", (1 << needs[kind]) - 1);
        }
    }

    /** 9: BAD. */
    private static void told() {
        Story two = NEW.then("ask 3 4 5 2 100 300", "ask 0 1 0 3 4 5");
        for (int what : new int[] {LEAST, -1, 13, MOST}) {
            two.refuses("told 0 " + what, BAD);
        }
        for (int asking : new int[] {LEAST, -1, 2, 14, MOST}) {
            two.refuses("told " + asking + " 0", BAD);
            two.refuses("told " + asking + " 12", BAD);
            two.refuses("told " + asking + " 13", BAD);
        }
    }

    /** 9: 7 its READERS (0: none), 8, 9 its FUND (NONE: no GRANT), 10, 11, 12. */
    private static void toldOfNothingYet() {
        Story one = NEW.then("fund 1", "fund 1", "give 1 9", "reader 1 0 1", "ask 1 9 0 0 9 0");
        int[] none = {0, 0, -1, 0, 0, 0};
        for (int what = 7; what <= 12; what++) {
            one.due("told 0 " + what, none[what - 7]);
        }
        one.then("deal").due("told 0 7", 1);
        one.then("deal").due("told 0 8", 0);
        Story marked = one.then("deal", "mark 0 0 99");
        marked.due("told 0 8", 1);
        marked.then("bar 0 0").due("told 0 8", 0);
        marked.then("bar 0 0").due("told 0 7", 1);
        Story granted = marked.then("grant 1 0 2 1 0");
        granted.due("told 0 9", 1);
        granted.due("told 0 10", 0);
        granted.due("told 0 11", 0);
        granted.due("told 0 12", 9);
        granted.then("proof 0 0").due("told 0 10", 1);
        granted.then("proof 0 0").due("told 0 11", 4);
        granted.then("proof 0 0").due("told 0 12", 5);
        granted.then("proof 0 0", "back 0 3").due("told 0 11", 1);
        granted.then("proof 0 0", "back 0 3").due("told 0 10", 1);
        granted.then("stop 0").due("told 0 12", 0);
        granted.then("stop 0").due("told 0 9", 1);
    }

    /** 1: the TEXT that was THE RULE when it came. */
    private static void textWhenItCame() {
        Story two = NEW.then("ask 0 0 0 0 1 0", "rule:may 1;pass 2;late 3;", "ask 0 0 0 0 1 0", "force 0",
                "ask 0 0 0 0 1 0");
        int[] due = {5, 3, 5};
        for (int asking = 0; asking < due.length; asking++) {
            two.due("says " + asking + " 2 5", due[asking]);
        }
    }
}
