import java.math.BigInteger;

/** The edges of promises 14 to 19: each sentence that names one, by itself. */
public final class EdgesOfReadersTest {
    private static final Check CHECK = new Check();
    private static final Story NEW = new Story(CHECK);
    private static final int BAD = Story.BAD, STATE = Story.STATE, LEAST = Story.LEAST, MOST = Story.MOST;

    public static void main(String[] args) {
        bar();
        barredByHouse();
        barredByBar();
        noSuchPair();
        dealOfNothing();
        dealNeedsAll();
        dealByLoad();
        dealByThemes();
        dealNotBarred();
        dealInOrder();
        dealOnce();
        readsCountsBarredLater();
        placesOfNothing();
        placesByNeedAndLoad();
        placesByBars();
        placesByMoving();
        markNumbers();
        markRefused();
        markInPlaceOfOne();
        markThatDoesNotCount();
        worthNone();
        worthWhat();
        worthInLowestTerms();
        worthOfEachNumberOfMarks();
        CHECK.end();
    }

    /** 14: 1; 0: it was told. */
    private static void bar() {
        Story some = NEW.then("reader 0 1 6", "reader 0 2 6", "ask 0 9 0 0 1 0", "ask 0 1 0 0 1 0");
        some.due("bar 0 0", 1);
        some.then("bar 0 0").due("bar 0 0", 0);
        some.then("bar 0 0", "bar 0 0").due("bar 0 0", 0);
        some.then("bar 0 0").due("bar 1 0", 1);
        some.then("bar 0 0").due("bar 0 1", 1);
        // BARRED by its HOUSE it was not told yet
        some.due("barred 0 1", 1);
        some.due("bar 0 1", 1);
        some.then("bar 0 1").due("bar 0 1", 0);
        some.then("bar 0 1").due("barred 0 1", 1);
        // all pairs, the last of them too
        Story all = NEW.times(8, "reader 0 0 6").times(14, "ask 1 1 0 0 1 0");
        all.due("bar 7 13", 1);
        all.then("bar 7 13").due("bar 7 13", 0);
        all.then("bar 7 13").due("barred 7 13", 1);
        all.then("bar 7 13").due("barred 6 13", 0);
        all.then("bar 7 13").due("barred 7 12", 0);
        all.then("bar 0 0").due("barred 0 0", 1);
    }

    /** 3: BARRED if it has its HOUSE (or the second one of a JOINT). */
    private static void barredByHouse() {
        for (int house = 0; house < 10; house++) {
            for (int kind = 0; kind < 6; kind++) {
                Story one = NEW.then("reader 0 " + house + " 6", "ask " + kind + " 3 7 0 1 0");
                one.due("barred 0 0", house == 3 || kind == 3 && house == 7 ? 1 : 0);
            }
            NEW.then("reader 0 " + house + " 6", "ask 3 3 3 0 1 0").due("barred 0 0", house == 3 ? 1 : 0);
        }
        NEW.then("reader 0 0 6", "ask 0 0 9 0 1 0").due("barred 0 0", 1);
        NEW.then("reader 0 9 6", "ask 3 0 9 0 1 0").due("barred 0 0", 1);
        NEW.then("reader 0 0 6", "ask 3 9 0 0 1 0").due("barred 0 0", 1);
    }

    /** 3: or a BAR was told of the two. */
    private static void barredByBar() {
        Story some = NEW.then("reader 0 1 6", "reader 0 1 6", "ask 0 9 0 0 1 0", "ask 0 9 0 0 1 0", "bar 1 0");
        some.due("barred 0 0", 0);
        some.due("barred 1 0", 1);
        some.due("barred 0 1", 0);
        some.due("barred 1 1", 0);
    }

    /** 14, 15, 18: BAD. */
    private static void noSuchPair() {
        Story some = NEW.then("reader 0 1 6", "reader 0 2 6", "ask 1 9 0 0 1 0", "deal", "mark 0 0 7");
        for (int none : new int[] {LEAST, -1, 8, 14, 32, 64, MOST}) {
            for (String call : new String[] {"bar", "barred"}) {
                some.refuses(call + " " + none + " 0", BAD);
                some.refuses(call + " 0 " + none, BAD);
                some.refuses(call + " " + none + " " + none, BAD);
            }
            some.refuses("mark " + none + " 0 5", BAD);
            some.refuses("mark 0 " + none + " 5", BAD);
        }
        for (String call : new String[] {"bar 2 0", "bar 0 1", "barred 2 0", "barred 0 1", "mark 2 0 5", "mark 0 1 5"}) {
            some.refuses(call, BAD);
        }
        NEW.then("reader 0 1 6").refuses("bar 0 0", BAD);
        NEW.then("ask 1 9 0 0 1 0").refuses("bar 0 0", BAD);
        NEW.then("reader 0 1 6").refuses("barred 0 0", BAD);
        NEW.then("ask 1 9 0 0 1 0").refuses("barred 0 0", BAD);
        NEW.then("reader 0 1 6").refuses("mark 0 0 0", BAD);
        NEW.then("ask 1 9 0 0 1 0").refuses("mark 0 0 0", BAD);
    }

    /** 16: how many ASKINGS got READERS: none are there, or no READERS. */
    private static void dealOfNothing() {
        NEW.due("deal", 0);
        NEW.then("reader 63 0 6").due("deal", 0);
        NEW.then("reader 63 0 6", "deal").due("readerTold 0 3", 0);
        NEW.then("ask 1 9 0 0 1 0").due("deal", 0);
        NEW.then("ask 1 9 0 0 1 0", "deal").due("told 0 7", 0);
        NEW.then("reader 63 0 6", "ask 1 9 0 0 1 0", "deal").due("deal", 0);
    }

    /** 3: if there are not so many, it gets none: those that are there read no more then. */
    private static void dealNeedsAll() {
        Story two = NEW.then("ask 2 9 0 0 1 0", "reader 1 0 6", "reader 0 1 6");
        two.due("deal", 0);
        two.then("deal").due("told 0 7", 0);
        two.then("deal").due("readerTold 0 3", 0);
        two.then("deal").due("readerTold 1 3", 0);
        two.then("deal").refuses("mark 0 0 5", STATE);
        Story three = two.then("deal", "reader 0 2 1");
        three.due("deal", 1);
        three.then("deal").due("told 0 7", 7);
        three.then("deal").due("readerTold 2 3", 1);
        // one that is BARRED, or reads as many as its LOAD, is not among them
        two.then("reader 63 9 6").due("deal", 0);
        two.then("reader 63 2 6", "bar 2 0").due("deal", 0);
        NEW.then("reader 0 0 6", "reader 0 1 6", "reader 0 2 1", "ask 2 9 0 0 1 0", "ask 2 9 0 0 1 0").due("deal", 1);
        // the next one that needs fewer gets them all the same
        two.then("ask 4 9 0 0 1 0").due("deal", 1);
        two.then("ask 4 9 0 0 1 0", "deal").due("told 1 7", 3);
    }

    /** 1: a LOAD (1 .. 6: how many ASKINGS it reads at most); 3: read fewer than LOAD. */
    private static void dealByLoad() {
        for (int load = 1; load <= 6; load++) {
            Story some = NEW.then("reader 1 0 " + load).times(8, "ask 1 9 0 0 1 0");
            some.due("deal", load);
            some.then("deal").due("readerTold 0 3", load);
            some.then("deal").due("told " + (load - 1) + " 7", 1);
            some.then("deal").due("told " + load + " 7", 0);
            some.then("deal").due("deal", 0);
            some.due("places", load);
            // its THEME does not help it beyond its LOAD
            Story other = some.then("reader 0 0 1", "deal");
            other.due("told " + load + " 7", 2);
            other.due("told " + (load + 1) + " 7", 0);
        }
    }

    /** 3: first those that have its THEME, of these (and of the others) those that read fewer, then by number. */
    private static void dealByThemes() {
        for (int theme = 0; theme < 6; theme++) {
            Story some = NEW.then("reader " + (63 - (1 << theme)) + " 0 6", "reader " + (1 << theme) + " 0 6",
                    "ask 1 9 0 " + theme + " 1 0", "deal");
            some.due("told 0 7", 2);
        }
        // READER 2 has the THEME and reads two, 0 and 1 read none
        Story more = NEW.then("reader 0 0 6", "reader 0 0 6", "reader 4 0 6", "ask 1 9 0 2 1 0", "ask 1 9 0 2 1 0",
                "deal");
        more.then("ask 1 9 0 2 1 0", "deal").due("told 2 7", 4);
        more.then("ask 1 9 0 3 1 0", "deal").due("told 2 7", 1);
        // of two that have the THEME the one that reads fewer, though its number is higher
        more.then("reader 4 0 6", "ask 1 9 0 2 1 0", "deal").due("told 2 7", 8);
        more.then("reader 4 0 6", "ask 1 9 0 2 1 0", "ask 1 9 0 2 1 0", "deal").due("told 3 7", 8);
        // of those that read alike the one of the lower number
        more.then("reader 4 0 6", "ask 1 9 0 2 1 0", "ask 1 9 0 2 1 0", "ask 1 9 0 2 1 0", "deal").due("told 4 7", 4);
        // the one with the THEME, and of the others the one that reads fewer
        more.then("ask 1 9 0 0 1 0", "ask 0 9 0 2 1 0", "deal").due("told 2 7", 1);
        more.then("ask 1 9 0 0 1 0", "ask 0 9 0 2 1 0", "deal").due("told 3 7", 2 | 4);
        // READERS without any THEME are taken by number
        NEW.then("reader 0 0 6", "reader 0 0 6", "reader 0 0 6", "ask 0 9 0 0 1 0", "deal").due("told 0 7", 3);
    }

    /** 3: of the READERS that are not BARRED. */
    private static void dealNotBarred() {
        Story two = NEW.then("reader 1 9 6", "reader 0 8 6");
        two.then("ask 1 9 0 0 1 0", "deal").due("told 0 7", 2);
        two.then("ask 1 8 0 0 1 0", "deal").due("told 0 7", 1);
        two.then("ask 1 7 9 0 1 0", "deal").due("told 0 7", 1);
        two.then("ask 1 7 9 0 1 0", "bar 0 0", "deal").due("told 0 7", 2);
        two.then("ask 1 7 9 0 1 0", "bar 0 0", "bar 1 0", "deal").due("told 0 7", 0);
        two.then("reader 0 7 6", "reader 0 7 6", "reader 0 7 6", "ask 3 8 9 0 1 0", "deal").due("told 0 7", 28);
    }

    /** 3: over all ASKINGS, in order: the earlier one takes what a later one would need. */
    private static void dealInOrder() {
        Story one = NEW.then("reader 1 0 1", "ask 1 9 0 1 1 0", "ask 1 9 0 0 1 0");
        one.due("deal", 1);
        one.then("deal").due("told 0 7", 1);
        one.then("deal").due("told 1 7", 0);
        Story all = NEW.times(7, "reader 0 0 6").times(14, "ask 2 1 0 0 1 0");
        all.due("deal", 14);
        all.then("deal").due("told 13 7", 1 << 4 | 1 << 5 | 1 << 6);
        all.then("deal").due("readerTold 6 3", 6);
        NEW.times(6, "reader 0 0 6").times(14, "ask 2 1 0 0 1 0").due("deal", 12);
    }

    /** 3: ASKINGS that have no READERS yet. */
    private static void dealOnce() {
        Story one = NEW.then("reader 0 0 6", "ask 1 9 0 0 1 0", "deal", "reader 1 0 6");
        one.due("deal", 0);
        one.then("deal").due("told 0 7", 1);
        one.then("bar 0 0").due("deal", 0);
        one.then("bar 0 0", "deal").due("told 0 7", 1);
        one.then("bar 0 0", "deal").due("readerTold 1 3", 0);
        one.then("ask 1 9 0 0 1 0").due("deal", 1);
    }

    /** 3: What READERS read counts ASKINGS that they were dealt, also if they were BARRED later. */
    private static void readsCountsBarredLater() {
        Story one = NEW.then("reader 0 0 1", "ask 1 9 0 0 1 0", "deal", "bar 0 0", "ask 1 9 0 0 1 0");
        one.due("readerTold 0 3", 1);
        one.due("deal", 0);
        one.due("places", 1);
    }

    /** 17: no ASKING, no READER, none that is not BARRED. */
    private static void placesOfNothing() {
        NEW.due("places", 0);
        NEW.then("reader 0 0 6").due("places", 0);
        NEW.then("ask 2 0 0 0 1 0").due("places", 0);
        NEW.then("reader 0 0 6", "ask 2 0 0 0 1 0").due("places", 0);
        NEW.then("reader 0 1 6", "ask 2 0 0 0 1 0", "bar 0 0").due("places", 0);
        NEW.then("reader 0 1 6", "reader 0 2 6", "ask 3 1 2 0 1 0").due("places", 0);
    }

    /** 3: no ASKING with more than NEED, no READER with more than LOAD (whatever was dealt). */
    private static void placesByNeedAndLoad() {
        for (int kind = 0; kind < 6; kind++) {
            int need = new int[] {2, 1, 3, 3, 2, 1}[kind];
            Story one = NEW.then("ask " + kind + " 9 9 0 1 0");
            for (int readers = 1; readers <= 8; readers++) {
                one.times(readers, "reader 0 0 6").due("places", Math.min(need, readers));
            }
        }
        Story all = NEW.times(8, "reader 0 0 6").times(14, "ask 2 1 0 0 1 0");
        all.due("places", 42);
        all.then("deal").due("places", 42);
        NEW.times(8, "reader 0 0 1").times(14, "ask 2 1 0 0 1 0").due("places", 8);
        NEW.times(8, "reader 0 0 5").times(14, "ask 2 1 0 0 1 0").due("places", 40);
        // one READER reads one ASKING once, whatever both could do
        NEW.then("reader 0 0 6", "ask 2 1 0 0 1 0").due("places", 1);
        // a LOAD that was dealt away is there for PLACES
        Story dealt = NEW.then("reader 0 0 1", "reader 0 5 1", "ask 1 9 0 0 1 0", "deal", "ask 1 5 0 0 1 0");
        dealt.due("places", 2);
        dealt.due("deal", 0);
        dealt.then("bar 0 0").due("places", 2);
        dealt.then("bar 0 1").due("places", 1);
    }

    /** 3: a READER that is not BARRED from it. */
    private static void placesByBars() {
        Story two = NEW.then("reader 0 1 1", "reader 0 2 1", "ask 1 9 0 0 1 0", "ask 1 9 0 0 1 0");
        two.due("places", 2);
        two.then("bar 0 0").due("places", 2);
        two.then("bar 0 0", "bar 1 1").due("places", 2);
        two.then("bar 0 0", "bar 0 1").due("places", 1);
        two.then("bar 0 0", "bar 1 0").due("places", 1);
        two.then("bar 0 0", "bar 1 0", "bar 0 1", "bar 1 1").due("places", 0);
    }

    /** 3: the most pairs: each READER but the last can be had only by moving all pairs ahead of it by one. */
    private static void placesByMoving() {
        Story chain = NEW.times(8, "reader 0 0 1").times(8, "ask 1 1 0 0 1 0");
        for (int i = 0; i < 8; i++) {
            for (int r = 0; r < 8; r++) {
                boolean open = i < 7 ? r == i || r == i + 1 : r == 0;
                chain = open ? chain : chain.then("bar " + r + " " + i);
            }
        }
        chain.due("places", 8);
        chain.then("places").due("places", 8);
        chain.then("places", "bar 7 6").due("places", 7);
        chain.then("places", "ask 2 1 0 0 1 0").due("places", 8);
        // one that was moved away is not moved again for another
        Story three = NEW.times(4, "reader 0 0 1").times(3, "ask 1 1 0 0 1 0").then("bar 0 0", "bar 0 1", "bar 0 2",
                "bar 2 1", "bar 3 1", "bar 2 2", "bar 3 2");
        three.due("places", 2);
        NEW.times(3, "reader 0 0 1").times(3, "ask 1 1 0 0 1 0").then("bar 1 1", "bar 2 1", "bar 1 2", "bar 2 2")
                .due("places", 2);
        // asked again, it is what it was; with more there, it is more
        Story two = NEW.then("places", "reader 0 0 2", "places", "ask 1 1 0 0 1 0", "places");
        two.due("places", 1);
        two.then("ask 1 1 0 0 1 0").due("places", 2);
        two.then("ask 1 1 0 0 1 0", "ask 1 1 0 0 1 0").due("places", 2);
        two.then("ask 1 1 0 0 1 0", "ask 1 1 0 0 1 0", "places", "bar 0 0", "bar 0 1").due("places", 1);
    }

    private static Story dealt() {
        return NEW.then("reader 1 0 6", "reader 1 0 6", "reader 0 0 6", "ask 0 9 0 0 1 0", "ask 1 9 0 1 1 0", "deal");
    }

    /** 18: A MARK 0 .. 100; BAD. */
    private static void markNumbers() {
        Story some = dealt().then("mark 1 0 33");
        some.due("mark 0 0 0", 2);
        some.due("mark 0 0 100", 2);
        for (int m : new int[] {LEAST, -100, -1, 101, 1000, MOST}) {
            some.refuses("mark 0 0 " + m, BAD);
            some.refuses("mark 1 0 " + m, BAD);
            some.refuses("mark 2 0 " + m, BAD);
        }
        some.then("mark 0 0 0").due("readerTold 0 4", 1);
        NEW.then("reader 0 0 1", "ask 1 9 0 0 1 0", "deal", "mark 0 0 100").due("worth 0 0", 100);
        NEW.then("reader 0 0 1", "ask 1 9 0 0 1 0", "deal", "mark 0 0 0").due("worth 0 0", 0);
    }

    /** 18: STATE: it was not dealt it, or is BARRED. */
    private static void markRefused() {
        NEW.then("reader 0 0 1", "ask 1 9 0 0 1 0").refuses("mark 0 0 5", STATE);
        NEW.then("reader 0 0 1", "ask 1 0 0 0 1 0").refuses("mark 0 0 5", STATE);
        Story some = dealt();
        some.due("told 0 7", 3);
        some.due("told 1 7", 4);
        some.refuses("mark 2 0 5", STATE);
        some.refuses("mark 0 1 5", STATE);
        some.then("bar 0 0").refuses("mark 0 0 5", STATE);
        some.then("mark 0 0 4", "bar 0 0").refuses("mark 0 0 5", STATE);
        some.then("bar 0 0").due("mark 1 0 5", 1);
        some.then("bar 0 1").due("mark 0 0 5", 1);
        // BAD comes first
        some.then("bar 0 0").refuses("mark 0 0 101", BAD);
        some.refuses("mark 2 0 -1", BAD);
        some.refuses("mark 2 2 5", BAD);
    }

    /** 18: (in place of one that it gave): how many of the ASKING's MARKS count. */
    private static void markInPlaceOfOne() {
        Story some = dealt();
        some.due("mark 0 0 5", 1);
        some.then("mark 0 0 5").due("mark 0 0 5", 1);
        some.then("mark 0 0 5").due("mark 1 0 5", 2);
        some.then("mark 0 0 5", "mark 1 0 7").due("mark 0 0 9", 2);
        some.then("mark 0 0 5", "mark 1 0 7", "mark 0 0 9").due("worth 0 0", 8);
        some.then("mark 0 0 5", "mark 1 0 7", "mark 0 0 9").due("readerTold 0 4", 1);
        some.then("mark 0 0 5", "mark 1 0 7", "mark 0 0 9").due("count 5", 2);
        some.then("mark 0 0 5", "mark 1 0 7").due("mark 2 1 9", 1);
    }

    /** 3: A MARK of one that is BARRED then does not count: nor does it in M and M(r). */
    private static void markThatDoesNotCount() {
        Story some = dealt().then("mark 0 0 10", "mark 1 0 20", "mark 2 1 90");
        some.due("worth 1 0", 40);
        some.then("bar 0 0").due("worth 1 0", 55);
        some.then("bar 0 0").due("worth 0 0", 55);
        some.then("bar 0 0").due("told 0 8", 1);
        some.then("bar 0 0").due("readerTold 0 4", 0);
        some.then("bar 0 0").due("readerTold 1 4", 1);
        some.then("bar 0 0").due("count 5", 2);
        some.then("bar 0 0", "bar 1 0").due("worth 0 0", Story.NO);
        some.then("bar 0 0", "bar 1 0").due("worth 1 0", 90);
        some.then("bar 0 0", "bar 1 0").due("told 0 8", 0);
        // one that had no MARK changes no WORTH
        some.then("bar 2 0").due("worth 0 0", 40);
        Story one = NEW.then("reader 0 0 6", "ask 1 9 0 0 1 0", "ask 1 9 0 0 1 0", "deal", "mark 0 0 10", "mark 0 1 20");
        one.due("worth 0 0", 10);
        one.due("worth 1 0", 20);
        one.then("bar 0 0").due("worth 1 0", 20);
        one.then("bar 0 0", "bar 0 1").due("count 5", 0);
    }

    /** 19: NO: it has none. */
    private static void worthNone() {
        Story some = NEW.then("reader 0 0 6", "ask 1 9 0 0 1 0", "ask 1 9 0 0 1 0");
        some.refuses("worth 0 0", Story.NO);
        some.refuses("worth 0 1", Story.NO);
        some.then("deal").refuses("worth 0 0", Story.NO);
        some.then("deal", "mark 0 0 0").due("worth 0 0", 0);
        some.then("deal", "mark 0 0 0").due("worth 0 1", 1);
        some.then("deal", "mark 0 0 0").refuses("worth 1 0", Story.NO);
        some.then("deal", "mark 0 0 0").refuses("worth 1 1", Story.NO);
        some.then("deal", "mark 0 0 0", "bar 0 0").refuses("worth 0 0", Story.NO);
        some.then("deal", "mark 0 0 0", "bar 0 0").refuses("worth 0 1", Story.NO);
    }

    /** 19: what 0, 1; NO: no such. */
    private static void worthWhat() {
        Story one = NEW.then("reader 0 0 6", "ask 1 9 0 0 1 0", "deal", "mark 0 0 7");
        one.due("worth 0 0", 7);
        one.due("worth 0 1", 1);
        for (int what : new int[] {LEAST, -1, 2, MOST}) {
            one.refuses("worth 0 " + what, Story.NO);
        }
        for (int asking : new int[] {LEAST, -1, 1, 14, MOST}) {
            one.refuses("worth " + asking + " 0", Story.NO);
            one.refuses("worth " + asking + " 1", Story.NO);
        }
    }

    /** FRACTIONS are told in lowest terms, below the line above 0. */
    private static void worthInLowestTerms() {
        // READER 0 is at (a + b) / 2, M is (a + b + c) / 3
        int[][] marks = {{0, 0, 0}, {100, 100, 100}, {0, 2, 0}, {0, 100, 0}, {100, 0, 0}, {6, 0, 0}, {2, 0, 1}, {7, 1, 100},
            {100, 0, 100}, {0, 5, 0}, {99, 100, 98}};
        for (int[] m : marks) {
            Story some = NEW.then("reader 1 0 6", "reader 0 1 1", "ask 1 9 0 0 1 0", "ask 1 9 0 0 1 0",
                    "ask 1 0 0 0 1 0", "deal");
            some = some.then("mark 0 0 " + m[0], "mark 0 1 " + m[1], "mark 1 2 " + m[2]);
            int all = 2 * (m[0] + m[1] + m[2]);
            fraction(some, 0, 3 * (m[0] - m[1]) + all, 6);
            fraction(some, 1, 3 * (m[1] - m[0]) + all, 6);
            fraction(some, 2, all, 6);
        }
    }

    private static void fraction(Story story, int asking, long above, long below) {
        long common = BigInteger.valueOf(above).gcd(BigInteger.valueOf(below)).longValue();
        story.due("worth " + asking + " 0", above / common);
        story.due("worth " + asking + " 1", below / common);
    }

    /** 3: SCALE, for a READER of each number of MARKS: one of 100 and else 0, and another READER's of 0. */
    private static void worthOfEachNumberOfMarks() {
        for (int n = 1; n <= 6; n++) {
            Story some = NEW.then("reader 1 0 6", "reader 0 1 1").times(n, "ask 1 9 0 0 1 0").then("ask 1 0 0 0 1 0",
                    "deal", "mark 0 0 100", "mark 1 " + n + " 0");
            for (int i = 1; i < n; i++) {
                some = some.then("mark 0 " + i + " 0");
            }
            // M(0) is 100 / n, M is 100 / (n + 1)
            long below = (long) n * (n + 1);
            fraction(some, 0, 100 * below - 100 * (n + 1) + 100 * n, below);
            fraction(some, n, 100 * n, below);
            if (n > 1) {
                fraction(some, n - 1, -100 * (n + 1) + 100 * n, below);
            }
        }
    }
}
