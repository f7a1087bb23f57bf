import com.sun.management.ThreadMXBean;
import java.lang.management.ManagementFactory;

/** What a run takes of memory: all calls of a run live in one room, so calls shall make next to nothing. */
public final class RoomTest {
    private static final Check CHECK = new Check();
    private static final int CALLS = 512;
    /** A text, a fund, a reader, an asking and a grant may each make something, a few times in all. */
    private static final long MOST_OF_OBJECT = 64 * 1024, MOST_OF_CALLS = 16 * 1024;
    private static final ThreadMXBean THREADS = (ThreadMXBean) ManagementFactory.getThreadMXBean();

    public static void main(String[] args) {
        GiftOffice warm = office();
        calls(warm);
        long start = taken();
        GiftOffice x = office();
        long made = taken();
        calls(x);
        long end = taken();
        CHECK.holds("an office with all in it takes " + (made - start) + " bytes", made - start < MOST_OF_OBJECT);
        CHECK.holds(18 * CALLS + " calls take " + (end - made) + " bytes", end - made < MOST_OF_CALLS);
        CHECK.end();
    }

    private static long taken() {
        return THREADS.getThreadAllocatedBytes(Thread.currentThread().getId());
    }

    private static GiftOffice office() {
        GiftOffice x = new GiftOffice();
        Check.rule(x, "may 1; pass 1 + ((((2 * 3)))) < 99; late behind;");
        x.fund(63);
        x.give(0, 1000000);
        for (int r = 0; r < 8; r++) {
            x.reader(63, 0, 6);
        }
        for (int i = 0; i < 14; i++) {
            x.ask(2, 1, 0, i % 6, 1000 + i * i, 0);
        }
        x.deal();
        for (int i = 0; i < 14; i++) {
            for (int r = 0; r < 8; r++) {
                x.mark(r, i, 40 + i * r % 60);
            }
        }
        x.sheet(0, 0, 40);
        x.sheet(1, 2, 40);
        return x;
    }

    private static void calls(GiftOffice x) {
        for (int i = 0; i < CALLS; i++) {
            x.choose(0);
            x.places();
            x.deal();
            x.worth(i % 14, 0);
            x.says(i % 14, 1, 0);
            x.fit(0, i % 14);
            x.mark(i % 8, i % 14, i % 100);
            x.ask(0, 0, 0, 0, 1, 1);
            x.asks(0, 0, 0, 6);
            x.sheet(1, 2, 40);
            x.feed(8, 0x6161616161616161L);
            x.text();
            x.count(5);
            x.told(i % 14, 8);
            x.due(i % 14, 100);
            x.bar(0, 15);
            x.fund(64);
            x.reader(0, 0, 6);
        }
    }
}
