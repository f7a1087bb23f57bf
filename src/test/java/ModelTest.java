/** Runs of calls, each answer of GiftOffice held against that of Model. */
public final class ModelTest {
    private static final int RUNS = 3000, LENGTH = 300, TEXTS = 60000, CROWDS = 600;
    private static final Check CHECK = new Check();
    private static final int[] ARGUMENTS = new int[6];
    /** How often each call is made, in a run that has all it needs. */
    private static final String OFTEN = "mark mark mark mark mark mark worth worth says says fit choose grant "
            + "grant grant proof proof proof due stop back fundTold fundTold told told told count readerTold bar "
            + "barred deal places ask asks cell cell cell sheet taken feed text force give fund reader";

    public static void main(String[] args) {
        for (int text = 0; text < TEXTS; text++) {
            text(new Dice(text + 1));
        }
        for (int crowd = 0; crowd < CROWDS; crowd++) {
            chosen(new Dice(31L * (crowd + 1)));
            placed(new Dice(37L * (crowd + 1)));
        }
        for (int run = 0; run < RUNS; run++) {
            run(run, new Dice(1000003L * (run + 1)));
        }
        CHECK.end();
    }

    /** A text alone, mostly with something amiss: its FAULT, or what it says. */
    private static void text(Dice dice) {
        GiftOffice x = new GiftOffice();
        Model y = new Model();
        String text = Words.text(dice, !dice.oneIn(3));
        feed(x, y, text);
        same(x, y, "text() of " + text, "text");
        same(x, y, "force", "force", 1);
        same(x, y, "ask", "ask", dice.from(0, 5), 1, 1, dice.from(0, 5), dice.from(1, 9999), dice.from(0, 999));
        for (int part = 0; part < 3; part++) {
            same(x, y, "says of " + text, "says", 0, part, dice.from(0, 999));
        }
    }

    private static void feed(GiftOffice x, Model y, String text) {
        for (int i = 0; i < text.length(); i += 8) {
            long bytes = 0;
            int n = Math.min(8, text.length() - i);
            for (int j = 0; j < n; j++) {
                bytes |= (long) text.charAt(i + j) << 8 * j;
            }
            int call = Calls.numberOf("feed");
            int[] a = {n, 0};
            CHECK.due("feed of " + text, Calls.made(x, call, a, bytes), y.made(call, a, bytes));
        }
    }

    private static void same(GiftOffice x, Model y, String told, String name, int... a) {
        int call = Calls.numberOf(name);
        CHECK.due(told, Calls.made(x, call, a, 0), y.made(call, a, 0));
    }

    private static void run(int run, Dice dice) {
        GiftOffice x = new GiftOffice();
        Model y = new Model();
        String[] often = OFTEN.split(" ");
        begin(x, y, dice);
        int many = dice.from(0, 3) == 0 ? 12 : 3;
        for (int i = 0; i < LENGTH; i++) {
            String name = often[dice.from(0, often.length - 1)];
            if (name.equals("text")) {
                feed(x, y, Words.text(dice, dice.oneIn(4)));
            } else if (name.equals("feed") && !dice.oneIn(many)) {
                continue;
            }
            int call = Calls.numberOf(name);
            Arguments.fill(name, ARGUMENTS, dice);
            if (!dice.oneIn(4)) {
                Hints.use(x, name, ARGUMENTS, dice);
            }
            if (name.equals("asks") && dice.oneIn(2)) {
                row(x, y, dice);
            }
            long bytes = dice.next();
            long due = y.made(call, ARGUMENTS, bytes);
            CHECK.due("run " + run + ", call " + i + ": " + Calls.told(call, ARGUMENTS, bytes),
                    Calls.made(x, call, ARGUMENTS, bytes), due);
        }
        all(run, x, y);
    }

    /** Many ASKINGS that are FIT, of SUMS and MARKS that are often alike. */
    private static void chosen(Dice dice) {
        GiftOffice x = new GiftOffice();
        Model y = new Model();
        feed(x, y, "may 1; pass 1; late 0;");
        same(x, y, "text", "text");
        same(x, y, "force", "force", 1);
        same(x, y, "fund", "fund", 63);
        int sums = dice.from(1, 9);
        int marks = dice.from(1, 12);
        same(x, y, "give", "give", 0, dice.from(1, 10 * sums));
        for (int r = 0; r < 8; r++) {
            same(x, y, "reader", "reader", 0, 0, dice.from(1, 6));
        }
        for (int i = 0; i < 14; i++) {
            same(x, y, "ask", "ask", dice.oneIn(5) ? 0 : 1, 1, 0, 0, dice.from(1, sums), 0);
        }
        same(x, y, "deal", "deal");
        for (int i = 0; i < 14; i++) {
            for (int r = 0; r < 8; r++) {
                same(x, y, "mark", "mark", r, i, dice.from(1, marks) * (100 / marks));
            }
        }
        for (int i = 0; i < 6; i++) {
            same(x, y, "choose", "choose", 0);
            same(x, y, "grant", "grant", 0, dice.from(0, 13), 1, 1, 0);
            same(x, y, "give", "give", 0, dice.from(1, sums));
        }
    }

    /** Many BARS and little LOADS. */
    private static void placed(Dice dice) {
        GiftOffice x = new GiftOffice();
        Model y = new Model();
        int most = dice.from(1, 6);
        for (int r = dice.from(1, 8); r > 0; r--) {
            same(x, y, "reader", "reader", 0, 0, dice.from(1, most));
        }
        for (int i = dice.from(1, 14); i > 0; i--) {
            same(x, y, "ask", "ask", dice.from(0, 5), 1, 1, 0, 1, 0);
        }
        same(x, y, "deal", "deal");
        for (int i = dice.from(0, 110); i > 0; i--) {
            same(x, y, "bar", "bar", dice.from(0, 7), dice.from(0, 13));
            same(x, y, "places", "places");
        }
    }

    /** A mild rule, some funds, readers and askings, so that later calls find something. */
    private static void begin(GiftOffice x, Model y, Dice dice) {
        if (dice.oneIn(2)) {
            feed(x, y, "may 1; pass mark + readers; late behind * 2;");
            same(x, y, "text", "text");
            same(x, y, "force", "force", 1);
        }
        for (int i = dice.from(0, 3); i >= 0; i--) {
            same(x, y, "fund", "fund", dice.from(0, 63) | dice.from(0, 63));
            same(x, y, "give", "give", i, dice.from(1, 12000));
        }
        for (int i = dice.from(1, 8); i > 0; i--) {
            same(x, y, "reader", "reader", dice.from(0, 63), dice.from(0, 9), dice.from(1, 6));
        }
        int most = dice.oneIn(2) ? 4999 : 99;
        for (int i = dice.from(1, 15); i > 0; i--) {
            same(x, y, "ask", "ask", dice.from(0, 5), dice.from(0, 9), dice.from(0, 9), dice.from(0, 5),
                    dice.from(1, most), dice.from(0, 999));
        }
        same(x, y, "deal", "deal");
    }

    /** Makes the SHEET that is to be read one with some ASKINGS on it. */
    private static void row(GiftOffice x, Model y, Dice dice) {
        int n = dice.from(12, 40);
        ARGUMENTS[2] = dice.from(0, 8);
        same(x, y, "sheet", "sheet", ARGUMENTS[0], ARGUMENTS[1], n);
        for (int i = 0; i < n; i++) {
            same(x, y, "cell", "cell", ARGUMENTS[0], i, dice.from(dice.oneIn(9) ? -1 : 0, 6));
        }
    }

    /** All that can be told, at the end. */
    private static void all(int run, GiftOffice x, Model y) {
        String at = "at the end of run " + run;
        for (int what = 0; what < 14; what++) {
            for (int i = 0; i < 14; i++) {
                same(x, y, at + " told", "told", i, what);
                same(x, y, at + " fundTold", "fundTold", i, what);
                same(x, y, at + " readerTold", "readerTold", i, what);
                same(x, y, at + " barred", "barred", i, what);
                same(x, y, at + " taken", "taken", i, what);
                same(x, y, at + " worth", "worth", i, what);
            }
            same(x, y, at + " count", "count", what);
            same(x, y, at + " choose", "choose", what);
        }
        same(x, y, at + " places", "places");
    }
}
