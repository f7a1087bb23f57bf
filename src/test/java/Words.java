/** Texts by the grammar, with depths about the most that may be, and such with something amiss. */
final class Words {
    private static final String[] NAMES = {"kind", "sum", "theme", "day", "mark", "readers", "behind"};
    private static final String[] TOKENS = {"kind", "sum", "theme", "day", "mark", "readers", "behind", "may",
        "pass", "late", "or", "and", "not", "(", ")", ";", "+", "-", "*", "<", "=", "7", "1234", "12345", "x",
        "suma", "su", "A", "\t", ">", "\u00e9", "\u0000", "_", "kinds", "m", ","};

    static String text(Dice dice, boolean amiss) {
        StringBuilder s = new StringBuilder();
        for (String key : new String[] {"may", "pass", "late"}) {
            word(s, key, dice);
            e(s, dice, dice.from(0, 7));
            sign(s, ";", dice);
        }
        if (amiss) {
            for (int i = dice.from(0, 2); i >= 0; i--) {
                spoil(s, dice);
            }
        }
        return s.length() <= 160 ? s.toString() : s.substring(0, 160);
    }

    private static void spoil(StringBuilder s, Dice dice) {
        int at = dice.from(0, Math.min(s.length(), 150));
        String token = TOKENS[dice.from(0, TOKENS.length - 1)];
        switch (dice.from(0, 3)) {
            case 0: s.insert(at, token); break;
            case 1: s.insert(at, " " + token + " "); break;
            case 2: s.delete(at, Math.min(s.length(), at + dice.from(1, 4))); break;
            default: s.setLength(at); break;
        }
    }

    private static void blanks(StringBuilder s, Dice dice) {
        for (int i = dice.oneIn(4) ? dice.from(1, 2) : 0; i > 0; i--) {
            s.append(dice.oneIn(2) ? ' ' : '\n');
        }
    }

    private static void word(StringBuilder s, String word, Dice dice) {
        char last = s.length() == 0 ? ' ' : s.charAt(s.length() - 1);
        boolean near = Character.isLetterOrDigit(last);
        s.append(near ? " " : "").append(word);
        blanks(s, dice);
    }

    private static void sign(StringBuilder s, String sign, Dice dice) {
        s.append(sign);
        blanks(s, dice);
    }

    private static void e(StringBuilder s, Dice dice, int depth) {
        and(s, dice, depth);
        while (dice.oneIn(6)) {
            word(s, "or", dice);
            and(s, dice, depth);
        }
    }

    private static void and(StringBuilder s, Dice dice, int depth) {
        not(s, dice, depth);
        while (dice.oneIn(6)) {
            word(s, "and", dice);
            not(s, dice, depth);
        }
    }

    private static void not(StringBuilder s, Dice dice, int depth) {
        if (depth > 0 && dice.oneIn(4)) {
            word(s, "not", dice);
            not(s, dice, depth - 1);
            return;
        }
        sum(s, dice, depth);
        if (dice.oneIn(4)) {
            sign(s, dice.oneIn(2) ? "<" : "=", dice);
            sum(s, dice, depth);
        }
    }

    private static void sum(StringBuilder s, Dice dice, int depth) {
        term(s, dice, depth);
        while (dice.oneIn(5)) {
            sign(s, dice.oneIn(2) ? "+" : "-", dice);
            term(s, dice, depth);
        }
    }

    private static void term(StringBuilder s, Dice dice, int depth) {
        one(s, dice, depth);
        while (dice.oneIn(5)) {
            sign(s, "*", dice);
            one(s, dice, depth);
        }
    }

    private static void one(StringBuilder s, Dice dice, int depth) {
        if (depth > 0 && dice.oneIn(3)) {
            sign(s, "-", dice);
            one(s, dice, depth - 1);
        } else if (depth > 0 && dice.oneIn(2)) {
            sign(s, "(", dice);
            e(s, dice, depth - 1);
            sign(s, ")", dice);
        } else if (dice.oneIn(2)) {
            word(s, NAMES[dice.from(0, NAMES.length - 1)], dice);
        } else {
            word(s, String.valueOf(dice.oneIn(3) ? dice.from(0, 9999) : dice.from(0, 9)), dice);
        }
    }
}
