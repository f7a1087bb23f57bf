import java.util.ArrayList;
import java.util.List;

/** Any arguments in any state, also behind the 512th call: nothing is thrown, what is refused changes nothing. */
public final class WildTest {
    private static final int RUNS = 400, LENGTH = 900;
    private static final Check CHECK = new Check();

    public static void main(String[] args) {
        for (int run = 0; run < RUNS; run++) {
            run(run, new Dice(77777L * (run + 1)));
        }
        alone();
        CHECK.end();
    }

    private static void run(int run, Dice dice) {
        GiftOffice x = new GiftOffice();
        int[] a = new int[6];
        for (int i = 0; i < LENGTH; i++) {
            int call = dice.from(0, Calls.NAMES.length - 1);
            String name = Calls.NAMES[call];
            Arguments.fill(name, a, dice);
            if (dice.oneIn(2)) {
                Hints.use(x, name, a, dice);
            }
            if (dice.oneIn(4)) {
                a[dice.from(0, 5)] = (int) (dice.next() >> dice.from(0, 63));
            }
            if (name.equals("text") && dice.oneIn(2)) {
                x.text();
                Check.feed(x, Words.text(dice, dice.oneIn(4)));
            }
            made(x, call, a, dice.next(), "run " + run + ", call " + i + ": ");
        }
    }

    private static void made(GiftOffice x, int call, int[] a, long bytes, String at) {
        List<Long> before = told(x);
        try {
            long answer = Calls.made(x, call, a, bytes);
            if (isRefusal(Calls.NAMES[call], answer)) {
                CHECK.holds(at + Calls.told(call, a, bytes) + " changes nothing", before.equals(told(x)));
            }
        } catch (RuntimeException | StackOverflowError e) {
            CHECK.holds(at + Calls.told(call, a, bytes) + " threw " + e, false);
        }
    }

    /** A FAULT empties the tape, and what stood ahead of a place outside came: these do change something. */
    private static boolean isRefusal(String name, long answer) {
        return answer < 0 && !name.equals("text") && !(name.equals("asks") && answer == -12);
    }

    private static List<Long> told(GiftOffice x) {
        List<Long> all = new ArrayList<>();
        for (int what = 0; what < 13; what++) {
            all.add((long) x.count(what));
            for (int i = 0; i < 14; i++) {
                all.add((long) x.told(i, what));
                all.add((long) x.fundTold(i, what));
                all.add((long) x.readerTold(i, what));
                all.add((long) x.barred(i, what));
            }
        }
        return all;
    }

    /** Each call with all arguments of one far value, on a new object and on one that has been used. */
    private static void alone() {
        int[] far = {Integer.MIN_VALUE, Integer.MAX_VALUE, -1, 0, 1, Integer.MIN_VALUE + 1, Integer.MAX_VALUE - 5};
        for (int call = 0; call < Calls.NAMES.length; call++) {
            for (int value : far) {
                int[] a = {value, value, value, value, value, value};
                made(new GiftOffice(), call, a, value, "new: ");
                made(used(), call, a, value, "used: ");
                int[] first = {0, value, value, value, value, value};
                made(used(), call, first, Long.MIN_VALUE, "used: ");
                int[] second = {0, 0, value, value, value, value};
                made(used(), call, second, Long.MAX_VALUE, "used: ");
            }
        }
    }

    private static GiftOffice used() {
        GiftOffice x = new GiftOffice();
        x.fund(63);
        x.give(0, 5000);
        x.reader(63, 0, 6);
        x.ask(1, 1, 1, 1, 100, 1);
        x.ask(1, 1, 1, 1, 100, 1);
        x.deal();
        x.mark(0, 0, 77);
        x.mark(0, 1, 77);
        x.grant(0, 0, 3, 3, 3);
        x.proof(0, 3);
        x.sheet(0, 0, 12);
        Check.feed(x, "may");
        return x;
    }
}
