/** Promises 10 to 13: the tape, texts and their faults, the rule, and what a text says. */
public final class TextsTest {
    private static final Check CHECK = new Check();

    public static void main(String[] args) {
        tape();
        texts();
        faults();
        depths();
        afterFaults();
        values();
        facts();
        rule();
        CHECK.end();
    }

    private static void tape() {
        GiftOffice x = new GiftOffice();
        CHECK.due("feed(0, 0)", x.feed(0, 0), -2);
        CHECK.due("feed(9, 0)", x.feed(9, 0), -2);
        CHECK.due("feed(-1, 0)", x.feed(-1, 0), -2);
        CHECK.due("feed(1, 'm')", x.feed(1, 'm' | 'x' << 8), 1);
        CHECK.due("feed(2, 'ay')", x.feed(2, 'a' | 'y' << 8), 3);
        CHECK.due("count(4)", x.count(4), 3);
        CHECK.due("only the lowest byte came, the lowest first", x.text(), -103);
        CHECK.due("the tape is empty", x.count(4), 0);
        for (int i = 1; i <= 19; i++) {
            CHECK.due("feed(8, -1)", x.feed(8, -1), 8 * i);
        }
        CHECK.due("feed(7, -1)", x.feed(7, -1), 159);
        CHECK.due("feed(2, 0)", x.feed(2, 0), -4);
        CHECK.due("feed(9, 0): BAD ahead of FULL", x.feed(9, 0), -2);
        CHECK.due("count(4)", x.count(4), 159);
        CHECK.due("feed(1, 0)", x.feed(1, 0), 160);
        CHECK.due("feed(1, 0)", x.feed(1, 0), -4);
        CHECK.due("text() of 160 bytes of 255", x.text(), -100);
        CHECK.due("the tape is empty", x.count(4), 0);
    }

    private static void texts() {
        GiftOffice x = new GiftOffice();
        CHECK.due("text: 1", Check.text(x, "may 1;pass 2;late 3;"), 1);
        CHECK.due("count(4)", x.count(4), 0);
        CHECK.due("text: a FAULT", Check.text(x, "may 1;pass 2;late 3;;"), -120);
        CHECK.due("count(4)", x.count(4), 0);
        CHECK.due("count(3)", x.count(3), 2);
        CHECK.due("text: 2, blanks all over", Check.text(x, " \nmay\n1 ;\n\npass 2 ; late 3 ; \n "), 2);
        CHECK.due("text: 3, of 160 bytes", Check.text(x, pad("may 1;pass 2;late 3;", 160)), 3);
        CHECK.due("text: 4", Check.text(x, "may 0;pass 0;late 0;"), 4);
        CHECK.due("text: 5", Check.text(x, "may 9999;pass 0000;late 0;"), 5);
        Check.feed(x, "may 1;");
        CHECK.due("text: a seventh", x.text(), -4);
        CHECK.due("text: the tape stays", x.count(4), 6);
        CHECK.due("count(3)", x.count(3), 6);
    }

    private static String pad(String text, int size) {
        StringBuilder padded = new StringBuilder(text);
        while (padded.length() < size) {
            padded.append(padded.length() % 2 == 0 ? ' ' : '\n');
        }
        return padded.toString();
    }

    /** The place of the FAULT is where the ^ stands, which is taken away; at the end if there is none. */
    private static void fault(String marked) {
        int place = marked.indexOf('^');
        String text = marked.replace("^", "");
        GiftOffice x = new GiftOffice();
        CHECK.due("text: " + marked, Check.text(x, text), -100 - (place < 0 ? text.length() : place));
        CHECK.due("count(3)", x.count(3), 1);
        CHECK.due("count(4)", x.count(4), 0);
    }

    private static void faults() {
        fault("");
        fault("  \n ");
        fault("may");
        fault("may  ");
        fault("may 1");
        fault("may 1 ;");
        fault("may 1 ; pass 1 ; late 1 ");
        fault("may 1 ; pass 1 ; late 1 +  ");
        fault("may ( 1 ");
        fault("^pass 1 ; may 1 ; late 1 ;");
        fault("may 1 ; ^late 1 ; pass 1 ;");
        fault("may 1 ; pass 1 ; late 1 ; ^may");
        fault("may 1 ; pass 1 ; late 1 ; ^12345");
        fault("may 1 ; pass 1 ; late 1 ; ^\t");
        fault("^May 1 ;");
        fault("^mayor 1 ;");
        fault("may ^sums ;");
        fault("may ^sumz ;");
        fault("may ^asum ;");
        fault("may ^zsum ;");
        fault("may ^su ;");
        fault("may ^sumday ;");
        fault("may ^x ;");
        fault("may ^12345 ;");
        fault("may ^00000 ;");
        fault("may 1 ^12345 ;");
        fault("may 1 ^2 ;");
        fault("may 1^sum ;");
        fault("may sum^1 ;");
        fault("may 1 ^not 2 ;");
        fault("may ^;");
        fault("may ^* 1 ;");
        fault("may ^+ 1 ;");
        fault("may ^) ;");
        fault("may () ;".replace(")", "^)"));
        fault("may ( 1 ^; pass");
        fault("may 1 ^) ;");
        fault("may 1 < 2 ^< 3 ;");
        fault("may 1 = 2 ^< 3 ;");
        fault("may not 1 = 2 ^= 3 ;");
        fault("may 1 < ^not 2 ;");
        fault("may 1 + ^not 2 ;");
        fault("may - ^not 2 ;");
        fault("may 1 < ^< 2 ;");
        fault("may 1 or ^or 2 ;");
        fault("may 1 or ^;");
        fault("may not ^;");
        fault("may - ^;");
        fault("may 1 ^may 2 ;");
        fault("may ^or ;");
        fault("may ^may ;");
        fault("may ^pass 1 ;");
        fault("may ^late ;");
        fault("may ^and ;");
        fault("may 1 * 2 ^( 3 ) ;");
        fault("may 1 ^, 2 ;");
        fault("may 1 ^\u0000 ;");
        fault("may 1 ^\u00ff ;");
        fault("may 1 ^\r ;");
        fault("may 1 ^> 2 ;");
        fault("may 1 ; pass 1 ; late 1 ; ^;");
        fault("may 1 ^A");
    }

    private static void good(String e) {
        GiftOffice x = new GiftOffice();
        CHECK.due("text: " + e, Check.text(x, "may " + e + ";pass " + e + ";late 0;"), 1);
    }

    private static void depths() {
        good("(((((1)))))");
        fault("may (((((^(1))))));");
        good("not not not not not 1");
        fault("may not not not not not ^not 1 ;");
        good("-----1");
        fault("may -----^-1 ;");
        fault("may 1 - -----^-1 ;");
        good("1------1");
        good("not(-(not 1))");
        good("-(not(-1))");
        fault("may -(not(-^(1))) ;");
        fault("may -(not(-^-1)) ;");
        fault("may ((((not ^not 1)))) ;");
        fault("may ((((not 1 + 2 and 3 < ^)");
        good("(((not 1 and not 2 or not 3 < (4))))");
        good("((((not 1 and not 2 or 3 < (4)))))");
        fault("may ((((not 1 and not 2 or not 3 < ^(4))))) ;");
        good("(1)+(2)*(3)-(4)+-5+-6+-7+-8");
        good("not 1 and not 2 and not 3 and not 4 and not 5 and not 6");
        good("-1*-2*-3*-4*-5*-6*-(1)");
    }

    /** A text that had a FAULT leaves nothing behind, wherever it was. */
    private static void afterFaults() {
        GiftOffice x = new GiftOffice();
        for (int i = 0; i < 20; i++) {
            CHECK.due("open at the FAULT", Check.text(x, "may (((((1+1+1+1+1+1+1+1+1+1+1+1 ;"), -133);
            CHECK.due("nearly a text", Check.text(x, "may 7; pass 8; late 9"), -121);
        }
        CHECK.due("text", Check.text(x, "may (((((1))))); pass 2 + 3; late 4 * not 0;"), -138);
        CHECK.due("text", Check.text(x, "may (((((1))))); pass 2 + 3; late 4 * 2;"), 1);
        x.force(1);
        x.ask(0, 0, 0, 0, 9, 9);
        CHECK.due("may", x.says(0, 0, 0), 1);
        CHECK.due("pass", x.says(0, 1, 0), 5);
        CHECK.due("late", x.says(0, 2, 0), 8);
    }

    /** What an E comes to as each of the three parts. */
    private static void value(String e, long due) {
        GiftOffice x = new GiftOffice();
        x.ask(0, 0, 0, 0, 1, 0);
        String[] texts = {"may " + e + "; pass 7; late 8;", "may 7; pass " + e + "; late 8;",
                "may 7; pass 8; late " + e + ";"};
        for (int part = 0; part < 3; part++) {
            GiftOffice y = new GiftOffice();
            int text = Check.text(y, texts[part]);
            CHECK.due("text: " + texts[part], text, 1);
            y.force(1);
            int came = y.ask(2, 3, 0, 4, 17, 5);
            CHECK.due("ask under " + texts[part], came, part == 0 && due == 0 ? -3 : 0);
            if (came == 0) {
                CHECK.due(texts[part], y.says(0, part, 9), due);
            }
        }
    }

    private static void values() {
        value("0", 0);
        value("9999", 9999);
        value("0012", 12);
        value("1 + 2 * 3", 7);
        value("( 1 + 2 ) * 3", 9);
        value("10 - 4 - 3", 3);
        value("10 - ( 4 - 3 )", 9);
        value("2 * 3 * 4 - 1", 23);
        value("- 2 * 3", -6);
        value("2 * - 3", -6);
        value("1 - - 2", 3);
        value("- - 5", 5);
        value("1 < 2", 1);
        value("2 < 2", 0);
        value("2 = 2", 1);
        value("1 + 1 = 2", 1);
        value("1 < 2 + 1", 1);
        value("- 1 < 0", 1);
        value("3 or 0", 1);
        value("0 or 0", 0);
        value("0 or - 4", 1);
        value("3 and 5", 1);
        value("3 and 0", 0);
        value("2 and 4 or 0", 1);
        value("1 or 0 and 0", 1);
        value("( 1 or 0 ) and 0", 0);
        value("not 0", 1);
        value("not 7", 0);
        value("not not 7", 1);
        value("not 1 < 0", 1);
        value("not 0 and 0", 0);
        value("not 1 or 1", 1);
        value("not ( 0 and 0 )", 1);
        value("( not 0 ) + 4", 5);
        value("1 < 2 and 3 = 3 and 5 < 9", 1);
        value("0 or 0 or 7", 1);
        value("9999 * 9999 * 9999", (int) (9999L * 9999 * 9999));
        value("9999 * 9999 * 22 + 9999 * 9999", (int) (9999L * 9999 * 23));
        value("0 - 9999 * 9999 * 22", (int) (-9999L * 9999 * 22));
        value("kind", 2);
        value("sum", 17);
        value("theme", 4);
        value("day", 5);
        value("mark", 0);
        value("readers", 0);
        value("kind*1000+sum*10+theme<2175", 1);
        value("kind*1000+sum*10+theme<2174", 0);
    }

    private static void facts() {
        GiftOffice x = new GiftOffice();
        Check.rule(x, "may 1; pass mark * 1000 + readers * 100 + behind; late mark * 10 + readers + behind * 1000;");
        x.reader(0, 0, 6);
        x.reader(0, 1, 6);
        CHECK.due("ask", x.ask(0, 5, 0, 0, 7, 1), 0);
        CHECK.due("ask", x.ask(0, 5, 0, 0, 7, 1), 1);
        CHECK.due("no WORTH yet", x.says(0, 2, 3), 3000);
        x.deal();
        x.mark(0, 0, 10);
        x.mark(0, 1, 1);
        x.mark(1, 0, 9);
        // M = 20/3; reader 0 is at 11/2, reader 1 at 9: WORTH of 0 is 107/12
        CHECK.due("worth(0, 0)", x.worth(0, 0), 107);
        CHECK.due("worth(0, 1)", x.worth(0, 1), 12);
        CHECK.due("mark is cut, behind is 0 in pass", x.says(0, 1, 5), 8 * 1000 + 200);
        CHECK.due("behind in late", x.says(0, 2, 5), 8 * 10 + 2 + 5000);
        // WORTH of 1 is 1 - 11/2 + 20/3 = 13/6
        CHECK.due("the other one", x.says(1, 2, 999), 2 * 10 + 1 + 999000);
        x.bar(1, 0);
        CHECK.due("a MARK less", x.says(0, 1, 0), 10 * 1000 + 100);
        CHECK.due("says(2, 0, 0)", x.says(2, 0, 0), GiftOffice.NO);
        CHECK.due("says(-1, 0, 0)", x.says(-1, 0, 0), GiftOffice.NO);
        CHECK.due("says(0, 3, 0)", x.says(0, 3, 0), GiftOffice.NO);
        CHECK.due("says(0, -1, 0)", x.says(0, -1, 0), GiftOffice.NO);
        CHECK.due("says(0, 2, -1)", x.says(0, 2, -1), GiftOffice.NO);
        CHECK.due("says(0, 2, 1000)", x.says(0, 2, 1000), GiftOffice.NO);
        CHECK.due("says(0, 0, 1000)", x.says(0, 0, 1000), GiftOffice.NO);
        CHECK.due("says(0, 1, -1)", x.says(0, 1, -1), GiftOffice.NO);
        belowZero();
    }

    /** A WORTH below 0 is cut towards 0 too. */
    private static void belowZero() {
        GiftOffice x = new GiftOffice();
        Check.rule(x, "may 1; pass mark; late mark + 1;");
        x.reader(0, 0, 6);
        x.reader(0, 1, 1);
        x.ask(1, 1, 0, 0, 7, 1);
        x.ask(1, 1, 0, 0, 7, 1);
        x.ask(1, 0, 0, 0, 7, 1);
        x.deal();
        x.mark(0, 0, 97);
        x.mark(0, 1, 0);
        x.mark(1, 2, 1);
        // M = 98/3, reader 0 is at 97/2: WORTH of 1 is -95/6
        CHECK.due("worth(1, 0)", x.worth(1, 0), -95);
        CHECK.due("worth(1, 1)", x.worth(1, 1), 6);
        CHECK.due("says(1, 1, 0)", x.says(1, 1, 0), -15);
        CHECK.due("says(1, 2, 0)", x.says(1, 2, 0), -14);
    }

    private static void ofEachItsOwn() {
        GiftOffice x = new GiftOffice();
        Check.rule(x, "may 1; pass kind * 100 + sum * 10 + theme; late day;");
        x.ask(1, 0, 0, 2, 3, 4);
        x.ask(2, 0, 0, 3, 4, 5);
        CHECK.due("the first", x.says(0, 1, 0), 132);
        CHECK.due("the first", x.says(0, 2, 0), 4);
        CHECK.due("the second", x.says(1, 1, 0), 243);
        CHECK.due("the second", x.says(1, 2, 0), 5);
    }

    private static void rule() {
        GiftOffice x = new GiftOffice();
        x.ask(0, 0, 0, 0, 4999, 0);
        CHECK.due("TEXT 0: may", x.says(0, 0, 0), 1);
        ofEachItsOwn();
        CHECK.due("TEXT 0: pass", x.says(0, 1, 0), 0);
        CHECK.due("TEXT 0: late", x.says(0, 2, 12), 12);
        Check.text(x, "may sum = 3; pass 1; late 77;");
        Check.text(x, "may 2; pass 3; late 4;");
        CHECK.due("a TEXT is not THE RULE by itself", x.count(7), 0);
        CHECK.due("force(2)", x.force(2), 0);
        CHECK.due("force(1)", x.force(1), 2);
        CHECK.due("force(3)", x.force(3), -2);
        CHECK.due("force(-1)", x.force(-1), -2);
        CHECK.due("count(7)", x.count(7), 1);
        CHECK.due("may of THE RULE", x.ask(0, 0, 0, 0, 4, 0), -3);
        CHECK.due("may of THE RULE", x.ask(0, 0, 0, 0, 3, 0), 1);
        x.force(2);
        CHECK.due("the TEXT that was THE RULE when it came", x.says(1, 2, 0), 77);
        CHECK.due("the TEXT that was THE RULE when it came", x.says(0, 2, 5), 5);
        CHECK.due("force(2): the same", x.force(2), 2);
    }
}
