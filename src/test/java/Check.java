/** Compares answers with those that are due, and ends the machine with 1 if one was not. */
final class Check {
    private int wrong;
    private int asked;

    void due(String call, long got, long want) {
        asked++;
        if (got != want) {
            wrong++;
            System.out.println(call + " answered " + got + ", due is " + want);
        }
    }

    void holds(String what, boolean so) {
        asked++;
        if (!so) {
            wrong++;
            System.out.println("does not hold: " + what);
        }
    }

    void end() {
        System.out.println(asked + " asked, " + wrong + " wrong");
        if (wrong != 0 || asked == 0) {
            System.exit(1);
        }
    }

    /** Feeds a text to THE TAPE; the last answer of feed(), or what the tape had if it is empty. */
    static int feed(GiftOffice x, String text) {
        int answer = x.count(4);
        for (int from = 0; from < text.length(); from += 8) {
            int n = Math.min(8, text.length() - from);
            long bytes = 0;
            for (int i = n - 1; i >= 0; i--) {
                bytes = bytes << 8 | text.charAt(from + i) & 255;
            }
            answer = x.feed(n, bytes);
        }
        return answer;
    }

    static int text(GiftOffice x, String text) {
        feed(x, text);
        return x.text();
    }

    /** Makes a text THE RULE, and answers whether it was read. */
    static boolean rule(GiftOffice x, String text) {
        int number = text(x, text);
        return number >= 0 && x.force(number) >= 0;
    }
}
