import java.util.ArrayList;
import java.util.List;

/** The edges of promises 12 and 13, and of what a TEXT may be and says: each sentence that names one, by itself. */
public final class EdgesOfGrammarTest {
    private static final Check CHECK = new Check();
    private static final Story NEW = new Story(CHECK);
    private static final int BAD = Story.BAD, STATE = Story.STATE, LEAST = Story.LEAST, MOST = Story.MOST;
    /** What may stand where a ONE begins, and all other TOKENS, and what is no TOKEN. */
    private static final List<String> ONES = List.of("kind", "sum", "theme", "day", "mark", "readers", "behind",
            "7", "0000", "9999", "-", "(");
    private static final List<String> OTHERS = List.of("not", "may", "pass", "late", "or", "and", ")", ";", "+", "*",
            "<", "=");
    private static final List<String> NO_TOKENS = List.of("x", "00000", "12345", "A", "\t", "\u0000", "\u00ff", "!",
            "kinds");
    private static final String[] BEHIND_SUM = {"or", "and", "+", "-", "*", "<", "="};
    private static final String[] BEHIND_COMPARED = {"or", "and", "+", "-", "*"};

    public static void main(String[] args) {
        partsInOrder();
        whereAnEBegins();
        whereAOneBegins();
        behindASum();
        behindTwoSums();
        fiveOpen();
        openTillTheyEnd();
        wraps();
        oneOrZero();
        bindings();
        textNought();
        force();
        says();
        behindInLateAlone();
        markAndReaders();
        CHECK.end();
    }

    /** Whatever may not stand behind a beginning is a FAULT there; what may stand is missed what comes behind it. */
    private static void only(String begun, List<String> may) {
        List<String> all = new ArrayList<>(ONES);
        all.addAll(OTHERS);
        all.addAll(NO_TOKENS);
        int place = begun.isEmpty() ? 0 : begun.length() + 1;
        for (String token : all) {
            String text = begun.isEmpty() ? token : begun + " " + token;
            NEW.due("text:" + text, -100 - (may.contains(token) ? text.length() : place));
            NEW.due("text:" + text + " 1", -100 - behind(text, token, may, place));
        }
    }

    /** The FAULT if a 1 stands behind a TOKEN: at the 1 behind what may have no ONE behind it, else at the end. */
    private static int behind(String text, String token, List<String> may, int place) {
        if (!may.contains(token)) {
            return place;
        }
        boolean endsOne = Character.isDigit(token.charAt(0)) || token.equals(")") || token.equals(";")
                || !token.equals("(") && !token.equals("-") && ONES.contains(token);
        return endsOne ? text.length() + 1 : text.length() + 2;
    }

    private static List<String> and(List<String> some, String... more) {
        List<String> all = new ArrayList<>(some);
        all.addAll(List.of(more));
        return all;
    }

    /** 2: TEXT: may E ; pass E ; late E ; */
    private static void partsInOrder() {
        only("", List.of("may"));
        only("may 1 ;", List.of("pass"));
        only("may 1 ; pass 2 ;", List.of("late"));
        only("may 1 ; pass 2 ; late 3 ;", List.of());
        NEW.faults("", 0);
        NEW.faults("pass 2 ; may 1 ; late 3 ;", 0);
        NEW.faults("may 1 ; late 3 ; pass 2 ;", 8);
        NEW.faults("may 1 ; may 1 ; pass 2 ; late 3 ;", 8);
        NEW.faults("may 1 pass 2 ; late 3 ;", 6);
        NEW.faults("may ; pass 2 ; late 3 ;", 4);
        NEW.faults("may 1 ; pass 2 ; late 3 ; ;", 26);
        NEW.faults("may 1 ; pass 2 ; late 3 ; may 1 ; pass 2 ; late 3 ;", 26);
        NEW.faults("1 ; pass 2 ; late 3 ;", 0);
        NEW.due("text:may 1 ; pass 2 ; late 3 ;", 1);
    }

    /** 2: NOT: not NOT, or SUM: a not may stand where an E, an AND or a NOT begins. */
    private static void whereAnEBegins() {
        for (String begun : new String[] {"may", "may 1 ; pass", "may 1 ; pass 2 ; late", "may (", "may 1 + (",
            "may not", "may not not", "may 1 or", "may 1 and", "may not 1 and", "may 1 < 2 or", "may - (",
            "may ((((", "may not not not not"}) {
            only(begun, and(ONES, "not"));
        }
    }

    /** 2: SUM, TERM, ONE: no not may stand there. */
    private static void whereAOneBegins() {
        for (String begun : new String[] {"may 1 +", "may 1 -", "may 1 *", "may -", "may - -", "may 1 <", "may 1 =",
            "may not 1 <", "may 1 + 2 =", "may ( 1 *", "may not -", "may ----"}) {
            only(begun, ONES);
        }
    }

    /** 2: SUM, perhaps < or = and a SUM. */
    private static void behindASum() {
        for (String begun : new String[] {"may 1", "may sum", "may not 1", "may - 1", "may 1 + 2", "may 1 * 2",
            "may ( 1 )", "may ( 1 < 2 )", "may not not - 1", "may 1 < 2 and 3", "may 1 = 2 or 3", "may ( not 1 )",
            "may 1 ; pass 1", "may 1 < 2 ; pass 3"}) {
            only(begun, and(List.of(BEHIND_SUM), ";"));
        }
        for (String begun : new String[] {"may ( 1", "may not ( 1", "may 1 + ( 2", "may ((((( 1", "may ( not 1",
            "may ( 1 < 2 and 3"}) {
            only(begun, and(List.of(BEHIND_SUM), ")"));
        }
    }

    /** 2: (of a SUM alone, once). */
    private static void behindTwoSums() {
        for (String begun : new String[] {"may 1 < 2", "may 1 = 2", "may not 1 < 2", "may 1 + 2 = 3 * 4",
            "may ( 1 < 2 ) = 3", "may 1 < - 2", "may 0 or 1 < 2", "may not not 1 = 2 + 3", "may 1 ; pass 1 < 2"}) {
            only(begun, and(List.of(BEHIND_COMPARED), ";"));
        }
        only("may ( 1 < 2", and(List.of(BEHIND_COMPARED), ")"));
        NEW.faults("may 1 < 2 < 3 ;", 10);
        NEW.faults("may 1 = 2 < 3 ;", 10);
        NEW.faults("may 1 < 2 = 3 ;", 10);
        NEW.faults("may 1 = 2 = 3 ;", 10);
        NEW.faults("may not 1 = 2 = 3 ;", 14);
        NEW.due("text:may ( 1 < 2 ) < 3; pass 1 < ( 2 < 3 ); late 1 < 2 and 3 < 4;", 1);
    }

    /** 2: a ( , a not, a - of - ONE while 5 of these are open: each row of five, and each sixth. */
    private static void fiveOpen() {
        String[] opens = {"(", "not", "-"};
        for (int row = 0; row < 243; row++) {
            StringBuilder begun = new StringBuilder("may");
            StringBuilder end = new StringBuilder();
            boolean may = true;
            boolean minus = false;
            int rest = row;
            for (int i = 0; i < 5; i++) {
                String open = opens[rest % 3];
                rest /= 3;
                may = may && !(minus && open.equals("not"));
                minus = open.equals("-");
                begun.append(' ').append(open);
                end.append(open.equals("(") ? " )" : "");
            }
            if (may) {
                NEW.due("text:" + begun + " 1" + end + " ; pass 2 ; late 3 ;", 1);
                for (String sixth : opens) {
                    NEW.due("text:" + begun + " " + sixth + " 1", -100 - begun.length() - 1);
                    NEW.due("text:" + begun + " " + sixth, -100 - begun.length() - 1);
                }
                NEW.due("text:" + begun, -100 - begun.length());
            }
        }
        NEW.faults("may ((((((1)))))) ;", 9);
        NEW.faults("may not not not not not not 1 ;", 24);
        NEW.faults("may ------1 ;", 9);
        NEW.faults("may (not -(- ( 1 ;", 13);
        // a - between two TERMS opens nothing
        NEW.due("text:may (((((1-2)))));pass -----1-2-3-4-5-6-7;late 1-----1;", 1);
        NEW.faults("may 1-----", 10);
        NEW.due("text:may 1------1;pass 2;late 3;", 1);
        NEW.faults("may 1-------1;pass 2;late 3;", 11);
    }

    /** 2: a ( till its ) , not and - till what they belong to ends. */
    private static void openTillTheyEnd() {
        good("(((((1))))) + (((((2)))))");
        good("((((1)))) + (((((2)))))");
        good("(((((1)))) + ((((2)))))");
        fault("(((((1)))) + ((((^(2");
        good("not 1 < ((((2))))");
        fault("not 1 < ((((^(2");
        good("not (1) < ((((2))))");
        good("not 1 and (((((2)))))");
        good("not 1 < 2 and (((((3)))))");
        good("not 1 or (((((2)))))");
        good("(not 1) < ((((2)))) ");
        good("(not 1 and ((((2)))))");
        fault("(not 1 < (((^(2");
        good("- 1 + (((((2)))))");
        good("- 1 * (((((2)))))");
        good("- (1) * (((((2)))))");
        good("- ((((1))))");
        fault("- ((((^(1");
        good("1 - (((((2)))))");
        good("not - 1 + ----2");
        fault("not - 1 + ----^-2");
        good("not not not not not 1 and not not not not not 2");
        fault("not not not not not 1 < ^(2");
        fault("not not not not not 1 + ^-2");
        good("not not not not not 1 + 2 * 3 < 4");
        good("-----1 * -----2 < -----3 or -----4");
    }

    private static void good(String e) {
        NEW.due("text:may " + e + ";pass 2;late 3;", 1);
        NEW.due("text:may 1;pass 2;late " + e + ";", 1);
    }

    private static void fault(String marked) {
        String text = "may " + marked.replace("^", "");
        NEW.faults(text, 4 + marked.indexOf('^'));
    }

    /** What an E says as late of an ASKING of KIND 2, THEME 4, SUM 17 and DAY 5. */
    private static void says(String e, long want) {
        NEW.then("rule:may 1;pass 2;late " + e + ";", "ask 2 3 0 4 17 5").due("says 0 2 0", want);
        NEW.then("rule:may 1;pass " + e + ";late 3;", "ask 2 3 0 4 17 5").due("says 0 1 0", want);
        Story may = NEW.then("rule:may " + e + ";pass 2;late 3;");
        if (want == 0) {
            may.refuses("ask 2 3 0 4 17 5", STATE);
        } else {
            may.then("ask 2 3 0 4 17 5").due("says 0 0 0", want);
        }
    }

    /** 2: An E is an int (32 bits, wrapping). */
    private static void wraps() {
        says("2048*2048*512", LEAST);
        says("2048*2048*512-1", MOST);
        says("2048*2048*512-1+1", LEAST);
        says("-(2048*2048*512)", LEAST);
        says("-(2048*2048*512-1)", -MOST);
        says("2048*2048*512*-1", LEAST);
        says("0-2048*2048*512", LEAST);
        says("2048*2048*512*2", 0);
        says("2048*2048*512+2048*2048*512", 0);
        says("4096*4096*256", 0);
        says("4096*4096*256+1", 1);
        says("4096*4096*256*9999", 0);
        says("9999*9999*9999", (int) 999700029999L);
        says("9999*9999*9999*9999", (int) 9996000599960001L);
        says("-9999*9999*9999", (int) -999700029999L);
        says("9999*9999*22-9999*9999*-1", (int) (99980001L * 23));
        // wrapped ints are compared as they are, not by what they differ by
        says("2048*2048*512<2048*2048*512-1", 1);
        says("2048*2048*512-1<2048*2048*512", 0);
        says("2048*2048*512<0", 1);
        says("2048*2048*512-1<0", 0);
        says("2048*2048*512=-(2048*2048*512)", 1);
        says("4096*4096*256=0", 1);
        says("not 4096*4096*256", 1);
        says("not 2048*2048*512", 0);
        says("4096*4096*256 or 0", 0);
        says("2048*2048*512 and 1", 1);
    }

    /** 2: of or, and, not, <, = 1 or 0 (what is not 0 is true). */
    private static void oneOrZero() {
        int[] some = {0, 1, 7, -1, -7};
        for (int a : some) {
            says("not " + a, a == 0 ? 1 : 0);
            for (int b : some) {
                says(a + " or " + b, a != 0 || b != 0 ? 1 : 0);
                says(a + " and " + b, a != 0 && b != 0 ? 1 : 0);
                says(a + " < " + b, a < b ? 1 : 0);
                says(a + " = " + b, a == b ? 1 : 0);
                says(a + " + " + b, a + b);
                says(a + " - " + b, a - b);
                says(a + " * " + b, a * b);
            }
        }
        says("0", 0);
        says("-0", 0);
        says("9999", 9999);
        says("-9999", -9999);
        says("0007", 7);
    }

    /** 2: E: AND { or AND } and what is below it: what binds more, and all of a level from the left. */
    private static void bindings() {
        says("1 or 1 and 0", 1);
        says("(1 or 1) and 0", 0);
        says("0 and 1 or 1", 1);
        says("0 and (1 or 1)", 0);
        says("not 0 and 0", 0);
        says("not (0 and 0)", 1);
        says("not 1 or 1", 1);
        says("not 1 < 1", 1);
        says("(not 1) < 1", 1);
        says("not 2 = 2", 0);
        says("(not 2) + 2", 2);
        says("not 2 - 2", 1);
        says("not not 5", 1);
        says("1 + 2 < 4", 1);
        says("4 < 1 + 2", 0);
        says("(4 < 1) + 2", 2);
        says("2 = 1 + 1", 1);
        says("1 < 2 and 2 < 1", 0);
        says("5 - 3 - 1", 1);
        says("5 - (3 - 1)", 3);
        says("5 - 3 + 1", 3);
        says("2 + 3 * 4", 14);
        says("(2 + 3) * 4", 20);
        says("-2 * 3 + 1", -5);
        says("-(2 * 3 + 1)", -7);
        says("--2", 2);
        says("1 - -2", 3);
        says("kind * 1000 + sum * 100 + theme * 10 + day", 2000 + 1700 + 40 + 5);
    }

    /** 2: TEXT 0: may sum < 5000 ; pass 49 < mark ; late behind ; */
    private static void textNought() {
        NEW.due("force 0", 0);
        Story one = NEW.then("fund 1", "give 0 9999", "reader 1 0 6", "reader 0 1 6", "ask 1 9 0 0 4999 0", "deal");
        one.due("says 0 0 0", 1);
        one.due("says 0 1 0", 0);
        one.then("mark 0 0 49").due("says 0 1 0", 0);
        one.then("mark 0 0 49").due("fit 0 0", 0);
        one.then("mark 0 0 50").due("says 0 1 0", 1);
        one.then("mark 0 0 50").due("fit 0 0", 1);
        one.due("says 0 2 0", 0);
        one.due("says 0 2 1", 1);
        one.due("says 0 2 999", 999);
        // a WORTH of 99/2 is cut to 49
        Story cut = one.then("ask 1 0 0 0 1 0", "deal", "mark 0 0 49", "mark 1 1 50");
        cut.due("worth 0 0", 99);
        cut.due("worth 0 1", 2);
        cut.due("says 0 1 0", 0);
        cut.then("mark 1 1 51").due("says 0 1 0", 1);
    }

    /** 12: which was; BAD. */
    private static void force() {
        for (int text : new int[] {LEAST, -1, 1, 5, 6, MOST}) {
            NEW.refuses("force " + text, BAD);
        }
        Story two = NEW.then("text:may 1;pass 1;late 1;", "text:may 2;pass 2;late 2;");
        two.due("force 2", 0);
        two.then("force 2").due("force 1", 2);
        two.then("force 2").due("force 2", 2);
        two.then("force 2", "force 1").due("force 0", 1);
        two.then("force 2").refuses("force 3", BAD);
        two.then("force 2").refuses("force -1", BAD);
        two.then("force 2", "?force 3").due("count 7", 2);
        two.then("?text:may 1;").refuses("force 3", BAD);
        NEW.times(5, "text:may 1;pass 1;late 1;").due("force 5", 0);
        NEW.times(5, "text:may 1;pass 1;late 1;").refuses("force 6", BAD);
    }

    /** 13: NO: no such, behind is not 0 .. 999. */
    private static void says() {
        Story one = NEW.then("rule:may 1;pass 2;late 3;", "ask 0 0 0 0 1 0");
        for (int part = 0; part < 3; part++) {
            one.due("says 0 " + part + " 0", part + 1);
            one.due("says 0 " + part + " 999", part + 1);
            for (int behind : new int[] {LEAST, -1, 1000, MOST}) {
                one.refuses("says 0 " + part + " " + behind, Story.NO);
            }
            for (int asking : new int[] {LEAST, -1, 1, 14, MOST}) {
                one.refuses("says " + asking + " " + part + " 0", Story.NO);
            }
        }
        for (int part : new int[] {LEAST, -1, 3, 4, MOST}) {
            one.refuses("says 0 " + part + " 0", Story.NO);
        }
    }

    /** 13: with behind (in late alone); 2: behind (0 in may, pass). */
    private static void behindInLateAlone() {
        Story one = NEW.then("rule:may 1+behind;pass behind;late behind*2;", "ask 0 0 0 0 1 0");
        for (int behind : new int[] {0, 1, 998, 999}) {
            one.due("says 0 0 " + behind, 1);
            one.due("says 0 1 " + behind, 0);
            one.due("says 0 2 " + behind, 2 * behind);
        }
        // what is said of one is not said of another
        Story two = NEW.then("rule:may 1;pass kind*100+sum*10+theme;late day*100+behind;", "ask 1 0 0 2 3 4",
                "ask 2 0 0 3 4 5");
        two.due("says 0 1 0", 132);
        two.due("says 1 1 0", 243);
        two.then("says 1 2 9").due("says 0 2 0", 400);
        two.then("says 0 2 9").due("says 1 2 1", 501);
        // what was behind once is not behind in a later call
        Story fits = NEW.then("rule:may 1;pass 1-behind;late 0;", "fund 1", "give 0 9", "reader 1 0 1",
                "ask 1 9 0 0 9 0", "deal", "mark 0 0 5", "says 0 2 999");
        fits.due("fit 0 0", 1);
        fits.due("ask 1 9 0 0 9 0", 1);
        fits.due("says 0 1 0", 1);
    }

    /** 2: mark: its WORTH cut towards 0 (0: it has none); readers: how many of its MARKS count. */
    private static void markAndReaders() {
        Story some = NEW.then("rule:may 1;pass mark;late readers;", "reader 0 0 6", "reader 0 1 1",
                "ask 1 9 0 0 1 0", "ask 1 0 0 0 1 0", "ask 1 9 0 0 1 0", "deal");
        for (int asking = 0; asking < 3; asking++) {
            some.due("says " + asking + " 1 0", 0);
            some.due("says " + asking + " 2 0", 0);
        }
        // READER 0 is at m / 2 and M is m / 3: WORTHS are 5 m / 6, m / 3 and - m / 6
        int[][] due = {{1, 0, 0}, {2, 0, 0}, {3, 1, 0}, {5, 1, 0}, {6, 2, -1}, {11, 3, -1}, {12, 4, -2}, {13, 4, -2}};
        for (int[] m : due) {
            Story marked = some.then("mark 0 0 " + m[0], "mark 1 1 0", "mark 0 2 0");
            marked.due("says 1 1 0", m[1]);
            marked.due("says 2 1 0", m[2]);
            marked.due("says 0 1 0", 5 * m[0] / 6);
            marked.due("says 0 2 0", 1);
            marked.then("bar 0 0").due("says 0 1 0", 0);
            marked.then("bar 0 0").due("says 0 2 0", 0);
        }
    }
}
