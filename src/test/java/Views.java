import java.util.List;
import java.util.function.Function;

/** Ways to look at all that an office answers; each takes an office of its own, as some change it. */
final class Views {
    static final List<Function<Story.Run, String>> ALL = List.of(Views::numbers, Views::askings, Views::pairs,
            Views::tape, Views::sheets, Views::money);

    private Views() {
    }

    private static void add(StringBuilder s, Story.Run run, String call) {
        s.append(call).append(": ").append(run.call(call)).append("; ");
    }

    private static String numbers(Story.Run run) {
        StringBuilder s = new StringBuilder();
        for (int what = 0; what < 8; what++) {
            add(s, run, "count " + what);
        }
        long funds = run.call("count 0");
        for (int i = 0; i < funds; i++) {
            for (int what = 0; what < 5; what++) {
                add(s, run, "fundTold " + i + " " + what);
            }
            add(s, run, "choose " + i);
        }
        long readers = run.call("count 1");
        for (int i = 0; i < readers; i++) {
            for (int what = 0; what < 5; what++) {
                add(s, run, "readerTold " + i + " " + what);
            }
        }
        add(s, run, "places");
        return s.toString();
    }

    private static String askings(Story.Run run) {
        StringBuilder s = new StringBuilder();
        long askings = run.call("count 2");
        for (int i = 0; i < askings; i++) {
            for (int what = 0; what < 13; what++) {
                add(s, run, "told " + i + " " + what);
            }
        }
        return s.toString();
    }

    private static String pairs(Story.Run run) {
        StringBuilder s = new StringBuilder();
        long askings = run.call("count 2");
        long readers = run.call("count 1");
        for (int i = 0; i < askings; i++) {
            for (int r = 0; r < readers; r++) {
                add(s, run, "barred " + r + " " + i);
            }
            add(s, run, "worth " + i + " 0");
            add(s, run, "worth " + i + " 1");
            add(s, run, "says " + i + " 1 0");
            add(s, run, "says " + i + " 2 7");
        }
        return s.toString();
    }

    /** What is on THE TAPE is seen if it lacks but the last sign of a text. */
    private static String tape(Story.Run run) {
        StringBuilder s = new StringBuilder();
        add(s, run, "feed 1 " + (int) ';');
        long text = run.call("text");
        s.append("text: ").append(text).append("; ");
        if (text >= 0) {
            add(s, run, "force " + text);
            long asking = run.call("ask 0 0 0 0 1 1");
            for (int part = 0; part < 3; part++) {
                add(s, run, "says " + asking + " " + part + " 9");
            }
        }
        return s.toString();
    }

    /** How long the SHEETS are, of which sort, and what stands on them, if it makes ASKINGS. */
    private static String sheets(Story.Run run) {
        StringBuilder s = new StringBuilder();
        for (int sheet = 0; sheet < 4; sheet++) {
            for (int sort = 0; sort < 3; sort++) {
                add(s, run, "asks " + sheet + " " + sort + " 0 6");
            }
            for (int i = 0; i < 41; i++) {
                add(s, run, "cell " + sheet + " " + i + " 1");
            }
        }
        long askings = run.call("count 2");
        for (int i = 0; i < askings; i++) {
            for (int what = 0; what < 6; what++) {
                add(s, run, "told " + i + " " + what);
            }
        }
        return s.toString();
    }

    /** A DEAL, MARKS by all, a GRANT for each, PROOFS in time and late, a STOP, and COINS back. */
    private static String money(Story.Run run) {
        StringBuilder s = new StringBuilder();
        add(s, run, "deal");
        long askings = run.call("count 2");
        long readers = run.call("count 1");
        for (int i = 0; i < askings; i++) {
            for (int r = 0; r < readers; r++) {
                add(s, run, "mark " + r + " " + i + " " + (60 + r));
            }
            add(s, run, "grant 0 " + i + " 2 3 4");
            add(s, run, "due " + i + " 110");
            add(s, run, "proof " + i + " 9");
            add(s, run, "proof " + i + " 130");
            add(s, run, "stop " + i);
            add(s, run, "back " + i + " 1");
        }
        return s.toString();
    }
}
