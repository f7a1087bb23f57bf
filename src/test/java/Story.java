import java.util.function.Function;

/**
 * Calls that an office has gone through. Each question is put to a new office that has gone through them, so that
 * no question hangs on one put before it.
 *
 * <p>A call is told by its name and its numbers: "give 0 5". Besides, "tape:" feeds the text behind it, "text:"
 * feeds it and reads it, "rule:" makes it THE RULE, too. All of them have to be taken, but those with a "?" ahead.
 */
final class Story {
    static final int BAD = -2, STATE = -3, FULL = -4;
    static final int NOTHING = -11, OUTSIDE = -12, OTHER = -13, BELOW = -14;
    static final long NO = -4611686018427387904L;
    static final int LEAST = Integer.MIN_VALUE, MOST = Integer.MAX_VALUE;
    private static final int MOST_CALLS = 512;

    private final Check check;
    private final String[] calls;

    Story(Check check, String... calls) {
        this.check = check;
        this.calls = calls;
    }

    Story then(String... more) {
        String[] all = new String[calls.length + more.length];
        System.arraycopy(calls, 0, all, 0, calls.length);
        System.arraycopy(more, 0, all, calls.length, more.length);
        return new Story(check, all);
    }

    Story times(int n, String call) {
        Story all = this;
        for (int i = 0; i < n; i++) {
            all = all.then(call);
        }
        return all;
    }

    /** What a call answers. */
    void due(String call, long want) {
        Run run = start();
        check.due(told(call), run.call(call), want);
        check.holds(told(call) + ": at most 512 calls", run.made <= MOST_CALLS);
    }

    /** What a call answers that is refused: an office that was asked it goes on as one that was not. */
    void refuses(String call, long want) {
        due(call, want);
        leavesNothing(call);
    }

    /** A text with a FAULT at a place: THE TAPE is empty then, and all else is as if it had never been fed. */
    void faults(String text, int place) {
        due("text:" + text, -100 - place);
        leavesNothing("text:" + text);
    }

    private void leavesNothing(String call) {
        for (Function<Run, String> view : Views.ALL) {
            Run asked = start();
            asked.call(call);
            String seen = view.apply(asked);
            String due = view.apply(start());
            check.holds(told(call) + " changes nothing: " + seen + " and not " + due, seen.equals(due));
            check.holds(told(call) + ": at most 512 calls", asked.made <= MOST_CALLS);
        }
    }

    private Run start() {
        Run run = new Run();
        for (String call : calls) {
            boolean mayBeRefused = call.startsWith("?");
            long answer = run.call(mayBeRefused ? call.substring(1) : call);
            check.holds(told("") + call + " is taken, not " + answer, answer >= 0 || mayBeRefused);
        }
        return run;
    }

    private String told(String call) {
        StringBuilder s = new StringBuilder();
        for (String one : calls) {
            s.append(one).append(" | ");
        }
        return s.append(call).toString();
    }

    /** An office, and how often it was called: what it answers behind the 512th call is free. */
    static final class Run {
        private final GiftOffice x = new GiftOffice();
        private int made;

        long call(String call) {
            int colon = call.indexOf(':');
            if (colon >= 0) {
                return write(call.substring(0, colon), call.substring(colon + 1));
            }
            made++;
            String[] words = call.split(" ");
            int[] a = new int[6];
            long last = 0;
            for (int i = 1; i < words.length; i++) {
                last = Long.parseLong(words[i]);
                a[i - 1] = (int) last;
            }
            return Calls.made(x, Calls.numberOf(words[0]), a, last);
        }

        private long write(String how, String text) {
            made += (text.length() + 7) / 8 + 1;
            long answer = Check.feed(x, text);
            if (!how.equals("tape")) {
                made++;
                answer = x.text();
            }
            if (how.equals("rule") && answer >= 0) {
                made++;
                x.force((int) answer);
            }
            return answer;
        }
    }
}
