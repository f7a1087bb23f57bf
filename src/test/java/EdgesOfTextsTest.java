import java.util.List;

/** The edges of promises 10 and 11, and of THE TAPE and its TOKENS: each sentence that names one, by itself. */
public final class EdgesOfTextsTest {
    private static final Check CHECK = new Check();
    private static final Story NEW = new Story(CHECK);
    private static final int BAD = Story.BAD, FULL = Story.FULL, LEAST = Story.LEAST, MOST = Story.MOST;
    private static final String GOOD = "may 1;pass 2;late 3;";
    private static final List<String> WORDS = List.of("kind", "sum", "theme", "day", "mark", "readers", "behind",
            "may", "pass", "late", "or", "and", "not");

    public static void main(String[] args) {
        feedNumbers();
        feedLowestFirst();
        feedFull();
        textEmptiesTheTape();
        textsFull();
        textOfAllTheTape();
        textEndsTooEarly();
        blanks();
        tokensAsLongAsCanBe();
        numbersTooLong();
        wordsNeitherKeyNorName();
        bytesThatBeginNone();
        CHECK.end();
    }

    /** 10: BAD: n is not 1 .. 8. */
    private static void feedNumbers() {
        for (int n : new int[] {LEAST, -8, -1, 0, 9, 16, MOST}) {
            NEW.refuses("feed " + n + " 109", BAD);
            NEW.then("tape:may 1;pass 2;late 3").refuses("feed " + n + " 59", BAD);
        }
        for (int n = 1; n <= 8; n++) {
            NEW.due("feed " + n + " " + Long.MIN_VALUE, n);
            NEW.then("tape:may").due("feed " + n + " -1", 3 + n);
        }
    }

    /** 10: the n lowest bytes of a number, the lowest first. */
    private static void feedLowestFirst() {
        // "may sum;" and behind it what is no byte of these n
        byte[] all = {'m', 'a', 'y', ' ', 's', 'u', 'm', ';'};
        for (int n = 1; n <= 8; n++) {
            long bytes = -1;
            for (int i = n - 1; i >= 0; i--) {
                bytes = bytes << 8 | all[i];
            }
            // what is fed is a part of a good text, so that its end is missed; a part of a word is none
            int[] due = {-100, -100, -103, -104, -104, -104, -107, -108};
            NEW.then("feed " + n + " " + bytes).due("text", due[n - 1]);
            Story one = NEW.then("feed " + n + " " + bytes);
            for (int i = n; i < 8; i++) {
                one = one.then("feed 1 " + (0x7700 + all[i]));
            }
            one.due("text:pass 2;late 3;", 1);
        }
        // the highest of eight bytes is no sign
        NEW.then("feed 8 " + (0xFF20202020202020L)).due("text", -107);
        NEW.then("feed 8 " + (0x2020202020202020L)).due("text", -108);
    }

    /** 2: THE TAPE (160 bytes at most); 10: FULL. */
    private static void feedFull() {
        Story most = NEW.times(19, "feed 8 0");
        most.due("feed 8 0", 160);
        for (int n = 1; n <= 8; n++) {
            Story some = most.then("feed " + n + " 0");
            for (int more = 1; more <= 8; more++) {
                if (n + more <= 8) {
                    some.due("feed " + more + " 0", 152 + n + more);
                } else {
                    some.refuses("feed " + more + " 0", FULL);
                    some.then("?feed " + more + " 0").due("count 4", 152 + n);
                }
            }
            some.refuses("feed 0 0", BAD);
            some.refuses("feed 9 0", BAD);
            some.refuses("feed " + LEAST + " 0", BAD);
        }
        // a tape that is full can be read, and is empty then
        most.then("feed 8 0", "?text").due("feed 8 0", 8);
        // what was refused is not on it
        String blank = " ".repeat(140 - 1);
        Story full = NEW.then("tape:" + GOOD + blank, "feed 1 32");
        full.then("?feed 1 59").due("text", 1);
        full.due("text", 1);
    }

    /** 11: THE TAPE, which is empty then (by a FAULT, too). */
    private static void textEmptiesTheTape() {
        NEW.refuses("text", -100);
        NEW.then("text:" + GOOD).due("count 4", 0);
        NEW.then("text:" + GOOD).refuses("text", -100);
        NEW.then("?text:may").due("count 4", 0);
        NEW.then("?text:may").due("text:" + GOOD, 1);
        NEW.then("?text:may").due("count 3", 1);
        NEW.faults(GOOD + "may", 20);
        NEW.then("rule:" + GOOD, "ask 1 1 1 1 1 1").faults("may 0;pass 0;late 0", 19);
        // nor does it leave what was open, or what was read
        NEW.times(9, "?text:may (((((1;").due("text:may (((((1)))));pass -----2;late not not not not not 3;", 1);
        Story often = NEW.times(9, "?text:may ((((1" + "+1".repeat(60) + ";");
        often.due("text:may 1" + "+1".repeat(60) + ";pass 2;late 3;", 1);
        often.then("rule:may 1" + "+1".repeat(60) + ";pass 2;late 3;", "ask 0 0 0 0 1 0").due("says 0 0 0", 61);
        often.then("rule:may 1" + "+1".repeat(60) + ";pass 2;late 3;", "ask 0 0 0 0 1 0").due("says 0 2 0", 3);
        // a FAULT takes no number, however often
        NEW.times(30, "?text:may (((((1;").due("text:" + GOOD, 1);
    }

    /** TEXTS (6); 11: FULL (ahead of all): no TEXT more has room (THE TAPE stays). */
    private static void textsFull() {
        Story five = NEW;
        for (int i = 1; i < 5; i++) {
            five.due("text:may " + i + ";pass 2;late 3;", i);
            five = five.then("text:may " + i + ";pass 2;late 3;");
        }
        five.due("count 3", 5);
        five.refuses("force 5", BAD);
        five.faults("may", 3);
        five.due("text:" + GOOD, 5);
        Story six = five.then("text:may 55;pass 2;late 3;");
        six.refuses("text", FULL);
        for (String tape : new String[] {GOOD, "may", "x", "may 1;pass 2;late 3", " "}) {
            Story fed = six.then("tape:" + tape);
            fed.refuses("text", FULL);
            fed.then("?text").due("count 4", tape.length());
            fed.then("?text").due("feed 1 0", tape.length() + 1);
        }
        six.due("count 3", 6);
        six.then("force 5", "ask 0 0 0 0 1 0").due("says 0 0 0", 55);
        six.then("force 4", "ask 0 0 0 0 1 0").due("says 0 0 0", 4);
        six.refuses("force 6", BAD);
    }

    /** 2: 160 bytes: the last of them is read as the others are. */
    private static void textOfAllTheTape() {
        String blank = " ".repeat(140);
        NEW.due("text:" + GOOD + blank, 1);
        NEW.due("text:" + blank + GOOD, 1);
        NEW.faults(blank + "may 1;pass 2;late 3+", 160);
        NEW.faults(blank + "may 1;pass 2;late 33", 160);
        NEW.faults(GOOD + blank.substring(1) + "x", 159);
        NEW.faults(GOOD + blank.substring(1) + ";", 159);
        NEW.faults(GOOD + blank.substring(3) + "may", 157);
        NEW.faults(" ".repeat(160), 160);
        NEW.faults("x".repeat(160), 0);
        NEW.faults("1".repeat(160), 0);
        NEW.faults("may " + "1".repeat(156), 4);
        NEW.faults("may " + "+".repeat(156), 4);
        NEW.faults("may " + "-".repeat(156), 9);
        NEW.faults("may " + "(".repeat(156), 9);
        NEW.faults("may " + "not ".repeat(39), 24);
        // as many ONES as have room: 1+1+..+1;pass 2;late 3;
        String ones = "1" + "+1".repeat(70);
        NEW.due("text:may " + ones + ";pass 2;late 3;", 1);
        NEW.then("rule:may " + ones + ";pass 2;late 3;", "ask 1 1 1 1 1 1").due("says 0 0 0", 71);
        NEW.then("rule:may 1;pass 1" + "*2".repeat(31) + ";late 3" + " or 0".repeat(12) + ";", "ask 1 1 1 1 1 1")
                .due("says 0 1 0", LEAST);
    }

    /** 2: the text's size, blanks at its end with it, if it ends too early. */
    private static void textEndsTooEarly() {
        String[] begun = {"", "may", "may 1", "may 1 ;", "may 1 ; pass", "may 1 ; pass not 1 <", "may 1 ; pass 2 ;",
            "may 1 ; pass 2 ; late", "may 1 ; pass 2 ; late 3", "may (", "may ( 1", "may -", "may not", "may 1 +",
            "may 1 *", "may 1 or", "may 1 and", "may 1 =", "may (((((1))))", "may 9999", "may 1 ; pass 1 ; late behind"};
        for (String text : begun) {
            for (String end : new String[] {"", " ", "\n", "  ", " \n ", "\n\n\n"}) {
                NEW.faults(text + end, text.length() + end.length());
            }
        }
    }

    /** 2: blanks (32, 10) may stand between. */
    private static void blanks() {
        NEW.due("text:may1;pass2;late3;", 1);
        NEW.due("text:may(1);pass-2;late-(3);", 1);
        NEW.due("text:may 1or 2and 3;pass 1+2*3<4;late not(not 0);", 1);
        NEW.due("text:may not1;pass 1and2;late 1or2or3;", 1);
        NEW.due("text:\n\n may \n 1 \n ; \n pass\n2\n;\nlate\n3\n;\n\n", 1);
        for (int b = 0; b < 256; b++) {
            char c = (char) b;
            boolean blank = b == 32 || b == 10;
            if (blank) {
                NEW.due("text:" + c + GOOD, 1);
                NEW.due("text:" + GOOD + c, 1);
                NEW.due("text:may" + c + "1;pass 2;late 3;", 1);
            } else {
                NEW.faults(c + GOOD, 0);
                NEW.faults(GOOD + c, 20);
                NEW.faults(" " + c + " " + GOOD, 1);
            }
        }
        // they end a TOKEN
        NEW.faults("m ay 1;", 0);
        NEW.faults("may su m;", 4);
        NEW.faults("may 1 2;", 6);
        NEW.faults("may 1\n2;", 6);
    }

    /** 2: TOKENS, each as long as can be. */
    private static void tokensAsLongAsCanBe() {
        NEW.faults("maysum;", 0);
        NEW.faults("may sumsum;", 4);
        NEW.faults("may notsum;", 4);
        NEW.faults("may not not notnot 1;", 12);
        NEW.faults("may 1 orsum;", 6);
        NEW.faults("may 1;passsum;", 6);
        NEW.faults("may sum1;", 7);
        NEW.faults("may 1sum;", 5);
        NEW.faults("may 99991;", 4);
        NEW.faults("may 9999 1;", 9);
        NEW.faults("may 1<=2;", 6);
        NEW.faults("may 1==2;", 6);
        NEW.faults("may ();", 5);
        NEW.faults("may 1++2;", 6);
        NEW.due("text:may 1--2;pass 1+-2;late 1*-2;", 1);
    }

    /** 2: NUMBERS (4 at most); a NUMBER that is too long. */
    private static void numbersTooLong() {
        for (String number : new String[] {"0", "9", "00", "99", "000", "999", "0000", "9999", "0123"}) {
            NEW.due("text:may 1;pass 2;late " + number + ";", 1);
            NEW.then("rule:may 1;pass 2;late " + number + ";", "ask 0 0 0 0 1 0")
                    .due("says 0 2 0", Integer.parseInt(number));
        }
        for (String number : new String[] {"00000", "10000", "99999", "000001", "2147483648", "4294967297",
            "18446744073709551617"}) {
            NEW.faults("may 1;pass 2;late " + number + ";", 18);
            NEW.faults("may " + number, 4);
            NEW.faults("may 1;pass 2;late 3 " + number + ";", 20);
            NEW.faults(number, 0);
            NEW.faults(GOOD + number, 20);
        }
    }

    /** 2: a WORD that is neither KEY nor NAME. */
    private static void wordsNeitherKeyNorName() {
        for (String word : WORDS) {
            String[] beside = {word.substring(1), word.substring(0, word.length() - 1), word + "a", word + "s",
                "a" + word, word + word, word.charAt(0) + word};
            for (String other : beside) {
                if (!other.isEmpty() && !WORDS.contains(other)) {
                    NEW.faults("may  " + other + ";", 5);
                    NEW.faults("may 1 " + other + ";", 6);
                    NEW.faults(other + " 1;", 0);
                    NEW.faults(GOOD + other, 20);
                }
            }
            for (char c = 'a'; c <= 'z'; c++) {
                NEW.due("text:may " + word + c, -104);
                NEW.due("text:may " + c + word, -104);
                NEW.due("text:may 1 " + c + " " + word, -106);
            }
            // with one letter that is not a .. z the rest is none, or the letter begins none
            NEW.faults("may " + Character.toUpperCase(word.charAt(0)) + word.substring(1) + ";", 4);
            NEW.faults("may " + word.substring(0, 1) + Character.toUpperCase(word.charAt(1)) + word.substring(2), 4);
        }
    }

    /** 2: a byte that begins none: all 256 behind a NUMBER, in a NUMBER and in a WORD. */
    private static void bytesThatBeginNone() {
        for (int b = 0; b < 256; b++) {
            char c = (char) b;
            String behind = "may 1" + c + ";pass 2;late 3;";
            String inside = "may 1" + c + "1;pass 2;late 3;";
            String word = "may su" + c + ";pass 2;late 3;";
            if (c == ' ' || c == '\n') {
                NEW.due("text:" + behind, 1);
                NEW.faults(inside, 6);
            } else if (c >= '0' && c <= '9') {
                NEW.due("text:" + behind, 1);
                NEW.due("text:" + inside, 1);
            } else if ("+-*<=".indexOf(c) >= 0) {
                NEW.faults(behind, 6);
                NEW.due("text:" + inside, 1);
            } else {
                NEW.faults(behind, c == ';' ? 6 : 5);
                NEW.faults(inside, c == ';' ? 6 : 5);
            }
            if (c == 'm') {
                NEW.due("text:" + word, 1);
            } else {
                NEW.faults(word, 4);
            }
        }
    }
}
