/**
 * Gifts of a foundation: askings that come by calls under rules, the readers that mark them,
 * the funds that they are granted from, and the coins that are paid part by part.
 */
public final class GiftOffice {
    public static final int NONE = -1, BAD = -2, STATE = -3, FULL = -4;
    public static final long NO = -4611686018427387904L;

    private static final int NOTHING = -11, OUTSIDE = -12, OTHER_SORT = -13, BELOW_ZERO = -14;
    private static final int FAULT_AT_START = -100;
    private static final int MOST_FUNDS = 5, MOST_READERS = 8, MOST_ASKINGS = 14, MOST_TEXTS = 6;
    private static final int MOST_BYTES = 160, MOST_SHEETS = 4, MOST_CELLS = 40;
    private static final int MOST_GIVEN_AT_ONCE = 1000000, MOST_GIVEN = 10000000;
    private static final int LAST_KIND = 5, LAST_THEME = 5, ALL_THEMES = 63;
    private static final int LAST_HOUSE = 9, LAST_DAY = 999, MOST_SUM = 9999;
    private static final int MOST_LOAD = 6, MOST_MARK = 100, MOST_PARTS = 4, MOST_SPAN = 100;
    private static final int ITEMS_OF_ASKING = 6;
    private static final int JOINT = 3;
    /** For each KIND the one that it stands under, and the READERS that it needs. */
    private static final int[] KIND_ABOVE = {-1, 0, 0, 2, 2, 1};
    private static final int[] KIND_NEED = {2, 1, 3, 3, 2, 1};
    private static final int MAY_PART = 0, PASS_PART = 1, LATE_PART = 2, PARTS_OF_TEXT = 3;
    private static final String FIRST_TEXT = "may sum < 5000 ; pass 49 < mark ; late behind ;";

    private final Fund[] funds = new Fund[MOST_FUNDS];
    private final Reader[] readers = new Reader[MOST_READERS];
    private final Asking[] askings = new Asking[MOST_ASKINGS];
    private final Text[] texts = new Text[MOST_TEXTS];
    private final Sheet[] sheets = new Sheet[MOST_SHEETS];
    private final Tape tape = new Tape();
    private final Parser parser = new Parser();
    private final int[] facts = new int[Tape.NAMES];
    private final Scale scale = new Scale();
    private final Choice choice = new Choice();
    private final Pairing pairing = new Pairing();
    private int fundCount;
    private int readerCount;
    private int askingCount;
    private int textCount;
    private int rule;

    public GiftOffice() {
        texts[0] = firstText();
        textCount = 1;
        for (int i = 1; i < texts.length; i++) {
            texts[i] = new Text();
        }
        for (int i = 0; i < sheets.length; i++) {
            sheets[i] = new Sheet();
        }
    }

    private static Text firstText() {
        Tape written = new Tape();
        written.write(FIRST_TEXT);
        Text first = new Text();
        new Parser().parse(written, first);
        return first;
    }

    // ---- funds, readers, askings

    public int fund(int end) {
        if (!isWithin(end, 0, ALL_THEMES)) {
            return BAD;
        }
        if (fundCount >= funds.length) {
            return FULL;
        }
        funds[fundCount] = new Fund(end);
        fundCount++;
        return fundCount - 1;
    }

    public int give(int fund, int n) {
        Fund to = findFund(fund);
        if (to == null || !isWithin(n, 1, MOST_GIVEN_AT_ONCE)) {
            return BAD;
        }
        if (to.given + n > MOST_GIVEN) {
            return FULL;
        }
        to.takeGift(n);
        return to.left;
    }

    public int fundTold(int fund, int what) {
        Fund of = findFund(fund);
        if (of == null) {
            return BAD;
        }
        switch (what) {
            case 0: return of.end;
            case 1: return of.given;
            case 2: return of.left;
            case 3: return of.promised;
            case 4: return of.paid;
            default: return BAD;
        }
    }

    public int reader(int themes, int house, int load) {
        boolean asTold = isWithin(themes, 0, ALL_THEMES) && isWithin(house, 0, LAST_HOUSE)
                && isWithin(load, 1, MOST_LOAD);
        if (!asTold) {
            return BAD;
        }
        if (readerCount >= readers.length) {
            return FULL;
        }
        readers[readerCount] = new Reader(readerCount, themes, house, load);
        readerCount++;
        return readerCount - 1;
    }

    public int readerTold(int reader, int what) {
        Reader of = findReader(reader);
        if (of == null) {
            return BAD;
        }
        switch (what) {
            case 0: return of.themes;
            case 1: return of.house;
            case 2: return of.load;
            case 3: return of.reads;
            case 4: return marksThatCountOf(of);
            default: return BAD;
        }
    }

    public int ask(int kind, int house, int second, int theme, int sum, int day) {
        boolean asTold = isWithin(kind, 0, LAST_KIND) && isWithin(house, 0, LAST_HOUSE)
                && (kind != JOINT || isWithin(second, 0, LAST_HOUSE))
                && isWithin(theme, 0, LAST_THEME) && isWithin(sum, 1, MOST_SUM)
                && isWithin(day, 0, LAST_DAY);
        if (!asTold) {
            return BAD;
        }
        setFacts(kind, sum, theme, day);
        setReadingFacts(0, 0, 0);
        if (reckon(rule, MAY_PART) == 0) {
            return STATE;
        }
        if (askingCount >= askings.length) {
            return FULL;
        }
        int other = kind == JOINT ? second : NONE;
        askings[askingCount] = new Asking(kind, house, other, theme, sum, day, rule);
        askingCount++;
        return askingCount - 1;
    }

    public int asks(int sheet, int sort, int from, int n) {
        if (!isWithin(sheet, 0, MOST_SHEETS - 1) || !Sheet.isSort(sort) || n < 0) {
            return BAD;
        }
        Sheet row = sheets[sheet];
        if (row.isMissing()) {
            return NOTHING;
        }
        if (row.sort != sort) {
            return OTHER_SORT;
        }
        int came = 0;
        int at = from;
        for (int i = 0; i < n; i++) {
            if (!row.holds(at) || !row.holds(at + ITEMS_OF_ASKING - 1)) {
                return OUTSIDE;
            }
            int number = ask(row.item(at), row.item(at + 1), row.item(at + 2),
                    row.item(at + 3), row.item(at + 4), row.item(at + 5));
            if (number >= 0) {
                came++;
            }
            at += ITEMS_OF_ASKING;
        }
        return came;
    }

    public int told(int asking, int what) {
        Asking of = findAsking(asking);
        if (of == null) {
            return BAD;
        }
        switch (what) {
            case 0: return of.kind;
            case 1: return of.house;
            case 2: return of.second;
            case 3: return of.theme;
            case 4: return of.sum;
            case 5: return of.day;
            case 6: return needOf(of.kind);
            case 7: return of.dealtTo;
            case 8: return marksThatCount(of);
            default: return grantTold(of.grant, what);
        }
    }

    private static int grantTold(Grant grant, int what) {
        switch (what) {
            case 9: return grant == null ? NONE : grant.fundNumber;
            case 10: return grant == null ? 0 : grant.partsPaid;
            case 11: return grant == null ? 0 : grant.paid;
            case 12: return grant == null ? 0 : grant.promised;
            default: return BAD;
        }
    }

    // ---- texts

    public int feed(int n, long bytes) {
        if (!isWithin(n, 1, 8)) {
            return BAD;
        }
        if (tape.size + n > MOST_BYTES) {
            return FULL;
        }
        for (int i = 0; i < n; i++) {
            tape.add((byte) (bytes >> (8 * i)));
        }
        return tape.size;
    }

    public int text() {
        if (textCount >= texts.length) {
            return FULL;
        }
        int fault = parser.parse(tape, texts[textCount]);
        tape.clear();
        if (fault != NONE) {
            return FAULT_AT_START - fault;
        }
        textCount++;
        return textCount - 1;
    }

    public int force(int text) {
        if (!isWithin(text, 0, textCount - 1)) {
            return BAD;
        }
        int was = rule;
        rule = text;
        return was;
    }

    public long says(int asking, int part, int behind) {
        Asking of = findAsking(asking);
        boolean asTold = isWithin(part, 0, PARTS_OF_TEXT - 1) && isWithin(behind, 0, LAST_DAY);
        if (of == null || !asTold) {
            return NO;
        }
        return reckonFor(of, part, part == LATE_PART ? behind : 0);
    }

    // ---- readers

    public int bar(int reader, int asking) {
        Reader one = findReader(reader);
        Asking other = findAsking(asking);
        if (one == null || other == null) {
            return BAD;
        }
        if (hasBit(other.barsTold, one.number)) {
            return 0;
        }
        other.barsTold |= 1 << one.number;
        return 1;
    }

    public int barred(int reader, int asking) {
        Reader one = findReader(reader);
        Asking other = findAsking(asking);
        if (one == null || other == null) {
            return BAD;
        }
        return other.isBarredTo(one) ? 1 : 0;
    }

    public int deal() {
        int got = 0;
        for (int i = 0; i < askingCount; i++) {
            Asking asking = askings[i];
            if (asking.dealtTo == 0) {
                dealTo(asking, pickReaders(asking));
                got += asking.dealtTo == 0 ? 0 : 1;
            }
        }
        return got;
    }

    /** The READERS (bits) that a DEAL takes for an ASKING; 0 if there are not so many as it needs. */
    private int pickReaders(Asking asking) {
        int picked = 0;
        int need = needOf(asking.kind);
        for (int k = 0; k < need; k++) {
            Reader best = null;
            for (int r = 0; r < readerCount; r++) {
                Reader one = readers[r];
                boolean free = !hasBit(picked, r) && one.reads < one.load && !asking.isBarredTo(one);
                if (free && (best == null || one.isAheadOf(best, asking.theme))) {
                    best = one;
                }
            }
            if (best == null) {
                return 0;
            }
            picked |= 1 << best.number;
        }
        return picked;
    }

    private void dealTo(Asking asking, int picked) {
        asking.dealtTo = picked;
        for (int r = 0; r < readerCount; r++) {
            if (hasBit(picked, r)) {
                readers[r].reads++;
            }
        }
    }

    public int places() {
        pairing.clear();
        for (int r = 0; r < readerCount; r++) {
            pairing.addReader(readers[r].load);
        }
        for (int i = 0; i < askingCount; i++) {
            int open = 0;
            for (int r = 0; r < readerCount; r++) {
                if (!askings[i].isBarredTo(readers[r])) {
                    open |= 1 << r;
                }
            }
            pairing.addAsking(needOf(askings[i].kind), open);
        }
        return pairing.mostPairs();
    }

    public int mark(int reader, int asking, int m) {
        Reader one = findReader(reader);
        Asking other = findAsking(asking);
        if (one == null || other == null || !isWithin(m, 0, MOST_MARK)) {
            return BAD;
        }
        if (!hasBit(other.dealtTo, one.number) || other.isBarredTo(one)) {
            return STATE;
        }
        other.setMark(one, m);
        return marksThatCount(other);
    }

    public long worth(int asking, int what) {
        Asking of = findAsking(asking);
        if (of == null || !isWithin(what, 0, 1)) {
            return NO;
        }
        weigh(of);
        if (!scale.hasWorth()) {
            return NO;
        }
        return what == 0 ? scale.above : scale.below;
    }

    // ---- grants

    public int fit(int fund, int asking) {
        Fund from = findFund(fund);
        Asking to = findAsking(asking);
        if (from == null || to == null) {
            return BAD;
        }
        return isFit(from, to) ? 1 : 0;
    }

    public int choose(int fund) {
        Fund from = findFund(fund);
        if (from == null) {
            return BAD;
        }
        choice.start(from.left);
        for (int i = 0; i < askingCount; i++) {
            if (isFit(from, askings[i])) {
                weigh(askings[i]);
                choice.add(i, askings[i].sum, scale.cutWorth());
            }
        }
        return choice.bestSet();
    }

    public int grant(int fund, int asking, int parts, int span, int day) {
        Fund from = findFund(fund);
        Asking to = findAsking(asking);
        boolean asTold = isWithin(parts, 1, MOST_PARTS) && isWithin(span, 1, MOST_SPAN)
                && isWithin(day, 0, LAST_DAY);
        if (from == null || to == null || !asTold) {
            return BAD;
        }
        if (!isFit(from, to) || to.sum > from.left) {
            return STATE;
        }
        to.grant = new Grant(from, fund, to.sum, parts, span, day);
        from.promise(to.sum);
        return from.left;
    }

    public int proof(int asking, int day) {
        Asking of = findAsking(asking);
        if (of == null || !isWithin(day, 0, LAST_DAY)) {
            return BAD;
        }
        Grant grant = of.grant;
        if (grant == null || !grant.isOpen()) {
            return STATE;
        }
        int part = grant.nextPart();
        int loss = lossOf(of, grant, day);
        grant.payNextPart(loss);
        return part - loss;
    }

    public int due(int asking, int day) {
        Asking of = findAsking(asking);
        if (of == null || !isWithin(day, 0, LAST_DAY)) {
            return BAD;
        }
        Grant grant = of.grant;
        if (grant == null || !grant.isOpen()) {
            return STATE;
        }
        return grant.nextPart() - lossOf(of, grant, day);
    }

    public int stop(int asking) {
        Asking of = findAsking(asking);
        if (of == null) {
            return BAD;
        }
        Grant grant = of.grant;
        if (grant == null || !grant.isOpen()) {
            return STATE;
        }
        return grant.release();
    }

    public int back(int asking, int n) {
        Asking of = findAsking(asking);
        if (of == null || n < 1) {
            return BAD;
        }
        Grant grant = of.grant;
        if (grant == null) {
            return STATE;
        }
        if (n > grant.paid) {
            return BAD;
        }
        grant.takeBack(n);
        return grant.paid;
    }

    public int count(int what) {
        switch (what) {
            case 0: return fundCount;
            case 1: return readerCount;
            case 2: return askingCount;
            case 3: return textCount;
            case 4: return tape.size;
            case 5: return allMarksThatCount();
            case 6: return allGrants();
            case 7: return rule;
            default: return BAD;
        }
    }

    // ---- the host

    public int sheet(int sheet, int sort, int n) {
        if (!isWithin(sheet, 0, MOST_SHEETS - 1) || (sort != NONE && !Sheet.isSort(sort))) {
            return BAD;
        }
        if (sort == NONE) {
            sheets[sheet].vanish();
            return 1;
        }
        if (n > MOST_CELLS) {
            return BAD;
        }
        if (n < 0) {
            return BELOW_ZERO;
        }
        sheets[sheet].become(sort, n);
        return 1;
    }

    public int cell(int sheet, int i, int v) {
        if (!isWithin(sheet, 0, MOST_SHEETS - 1)) {
            return BAD;
        }
        Sheet row = sheets[sheet];
        if (row.isMissing()) {
            return NOTHING;
        }
        if (!row.holds(i)) {
            return OUTSIDE;
        }
        row.put(i, v);
        return 1;
    }

    public int taken(int asking, int k) {
        if (!isWithin(k, 0, LAST_KIND)) {
            return BAD;
        }
        Asking of = findAsking(asking);
        if (of == null) {
            return NOTHING;
        }
        return isKindOrUnder(of.kind, k) ? of.house : OTHER_SORT;
    }

    // ---- what the calls share

    private static boolean isWithin(int n, int least, int most) {
        return n >= least && n <= most;
    }

    private static boolean hasBit(int bits, int i) {
        return (bits >> i & 1) != 0;
    }

    private static int needOf(int kind) {
        return isWithin(kind, 0, KIND_NEED.length - 1) ? KIND_NEED[kind] : 0;
    }

    private static boolean isKindOrUnder(int kind, int above) {
        int at = kind;
        for (int i = 0; i <= LAST_KIND && isWithin(at, 0, KIND_ABOVE.length - 1); i++) {
            if (at == above) {
                return true;
            }
            at = KIND_ABOVE[at];
        }
        return false;
    }

    private Fund findFund(int number) {
        return isWithin(number, 0, fundCount - 1) ? funds[number] : null;
    }

    private Reader findReader(int number) {
        return isWithin(number, 0, readerCount - 1) ? readers[number] : null;
    }

    private Asking findAsking(int number) {
        return isWithin(number, 0, askingCount - 1) ? askings[number] : null;
    }

    private int marksThatCount(Asking asking) {
        int marks = 0;
        for (int r = 0; r < readerCount; r++) {
            if (asking.hasMarkThatCounts(readers[r])) {
                marks++;
            }
        }
        return marks;
    }

    private int marksThatCountOf(Reader reader) {
        int marks = 0;
        for (int i = 0; i < askingCount; i++) {
            if (askings[i].hasMarkThatCounts(reader)) {
                marks++;
            }
        }
        return marks;
    }

    private int allMarksThatCount() {
        int marks = 0;
        for (int i = 0; i < askingCount; i++) {
            marks += marksThatCount(askings[i]);
        }
        return marks;
    }

    private int allGrants() {
        int grants = 0;
        for (int i = 0; i < askingCount; i++) {
            if (askings[i].grant != null) {
                grants++;
            }
        }
        return grants;
    }

    /** Lays WORTH of an ASKING on the scale, filled anew: one MARK or BAR moves the WORTH of others. */
    private void weigh(Asking asking) {
        scale.clear();
        for (int i = 0; i < askingCount; i++) {
            for (int r = 0; r < readerCount; r++) {
                if (askings[i].hasMarkThatCounts(readers[r])) {
                    scale.add(r, askings[i].markOf(readers[r]));
                }
            }
        }
        for (int r = 0; r < readerCount; r++) {
            if (asking.hasMarkThatCounts(readers[r])) {
                scale.lay(r, asking.markOf(readers[r]));
            }
        }
        scale.settle();
    }

    private void setFacts(int kind, int sum, int theme, int day) {
        facts[Tape.KIND] = kind;
        facts[Tape.SUM] = sum;
        facts[Tape.THEME] = theme;
        facts[Tape.DAY] = day;
    }

    private void setReadingFacts(int mark, int marks, int behind) {
        facts[Tape.MARK] = mark;
        facts[Tape.READERS] = marks;
        facts[Tape.BEHIND] = behind;
    }

    private int reckon(int text, int part) {
        return isWithin(text, 0, textCount - 1) ? texts[text].valueOf(part, facts) : 0;
    }

    private int reckonFor(Asking asking, int part, int behind) {
        weigh(asking);
        setFacts(asking.kind, asking.sum, asking.theme, asking.day);
        setReadingFacts(scale.cutWorth(), marksThatCount(asking), behind);
        return reckon(asking.text, part);
    }

    private boolean isFit(Fund fund, Asking asking) {
        return asking.grant == null && hasBit(fund.end, asking.theme)
                && marksThatCount(asking) > 0 && reckonFor(asking, PASS_PART, 0) != 0;
    }

    private int lossOf(Asking asking, Grant grant, int day) {
        int behind = Math.max(0, day - grant.nextDue());
        int loss = reckonFor(asking, LATE_PART, behind);
        return Math.min(Math.max(0, loss), grant.nextPart());
    }

    /** LEFT, PROMISED and PAID of a FUND always make what it was given. */
    private static final class Fund {
        final int end;
        int given;
        int left;
        int promised;
        int paid;

        Fund(int end) {
            this.end = end;
        }

        void takeGift(int n) {
            given += n;
            left += n;
        }

        void promise(int n) {
            left -= n;
            promised += n;
        }

        void pay(int part, int loss) {
            promised -= part;
            paid += part - loss;
            left += loss;
        }

        void release(int n) {
            promised -= n;
            left += n;
        }

        void takeBack(int n) {
            paid -= n;
            left += n;
        }
    }

    private static final class Reader {
        final int number;
        final int themes;
        final int house;
        final int load;
        int reads;

        Reader(int number, int themes, int house, int load) {
            this.number = number;
            this.themes = themes;
            this.house = house;
            this.load = load;
        }

        /** Whether a DEAL takes it ahead of one with a lower number. */
        boolean isAheadOf(Reader other, int theme) {
            boolean knows = hasBit(themes, theme);
            if (knows != hasBit(other.themes, theme)) {
                return knows;
            }
            return reads < other.reads;
        }
    }

    private static final class Asking {
        final int kind;
        final int house;
        final int second;
        final int theme;
        final int sum;
        final int day;
        final int text;
        private final int[] marks = new int[MOST_READERS];
        private int marked;
        int dealtTo;
        int barsTold;
        Grant grant;

        Asking(int kind, int house, int second, int theme, int sum, int day, int text) {
            this.kind = kind;
            this.house = house;
            this.second = second;
            this.theme = theme;
            this.sum = sum;
            this.day = day;
            this.text = text;
        }

        boolean isBarredTo(Reader reader) {
            // second is NONE, which is no HOUSE, but of a JOINT
            return hasBit(barsTold, reader.number) || reader.house == house || reader.house == second;
        }

        boolean hasMarkThatCounts(Reader reader) {
            return hasBit(marked, reader.number) && !isBarredTo(reader);
        }

        void setMark(Reader reader, int m) {
            if (isWithin(reader.number, 0, marks.length - 1)) {
                marks[reader.number] = m;
                marked |= 1 << reader.number;
            }
        }

        int markOf(Reader reader) {
            return isWithin(reader.number, 0, marks.length - 1) ? marks[reader.number] : 0;
        }
    }

    private static final class Grant {
        private final Fund fund;
        final int fundNumber;
        private final int part;
        private final int parts;
        private final int span;
        private final int day;
        int partsPaid;
        int promised;
        int paid;

        Grant(Fund fund, int fundNumber, int sum, int parts, int span, int day) {
            this.fund = fund;
            this.fundNumber = fundNumber;
            this.part = parts > 0 ? sum / parts : sum;
            this.parts = parts;
            this.span = span;
            this.day = day;
            this.promised = sum;
        }

        /** The last PART is never 0, so what is PROMISED tells whether a PART is to be paid. */
        boolean isOpen() {
            return promised > 0;
        }

        int nextPart() {
            return partsPaid >= parts - 1 ? promised : part;
        }

        int nextDue() {
            return day + partsPaid * span;
        }

        void payNextPart(int loss) {
            int next = nextPart();
            fund.pay(next, loss);
            promised -= next;
            paid += next - loss;
            partsPaid++;
        }

        int release() {
            int rest = promised;
            fund.release(rest);
            promised = 0;
            return rest;
        }

        void takeBack(int n) {
            fund.takeBack(n);
            paid -= n;
        }
    }

    /** THE TAPE, and the TOKENS that it falls into. */
    private static final class Tape {
        /** The words' places in WORDS are their TOKENS: the NAMES first, then the KEYS. */
        private static final String WORDS =
                "kind sum theme day mark readers behind may pass late or and not ";
        /** NAMES counts those ahead of it; MAY, PASS and LATE stand as the parts of a TEXT do. */
        static final int KIND = 0, SUM = 1, THEME = 2, DAY = 3, MARK = 4, READERS = 5, BEHIND = 6;
        static final int NAMES = 7;
        static final int MAY = 7, PASS = 8, LATE = 9, OR = 10, AND = 11, NOT = 12, NUMBER = 13;
        private static final String SIGNS = "();+-*<=";
        private static final int FIRST_SIGN = 14;
        static final int OPEN = 14, CLOSE = 15, SEMICOLON = 16, PLUS = 17, MINUS = 18, TIMES = 19;
        static final int LESS = 20, EQUAL = 21;
        static final int END = 22, FAULTY = 23;
        private static final int MOST_DIGITS = 4;

        private final byte[] bytes = new byte[MOST_BYTES];
        int size;
        private final int[] tokens = new int[MOST_BYTES + 1];
        private final int[] places = new int[MOST_BYTES + 1];
        private final int[] numbers = new int[MOST_BYTES + 1];
        private int tokenCount;
        private int at;

        void clear() {
            size = 0;
        }

        void add(byte b) {
            if (size < bytes.length) {
                bytes[size] = b;
                size++;
            }
        }

        void write(String written) {
            for (int i = 0; i < written.length(); i++) {
                add((byte) written.charAt(i));
            }
        }

        /** Splits it into TOKENS till its end, or till one that can stand nowhere. */
        void split() {
            tokenCount = 0;
            at = 0;
            boolean more = true;
            for (int i = 0; i <= MOST_BYTES && more; i++) {
                skipBlanks();
                int from = at;
                int token = takeToken();
                addToken(token, from, token == NUMBER ? numberOf(from) : 0);
                more = token != END && token != FAULTY;
            }
        }

        int token(int i) {
            return i >= 0 && i < tokenCount ? tokens[i] : END;
        }

        int placeOf(int i) {
            return isWithin(i, 0, tokenCount - 1) ? places[i] : size;
        }

        int numberAt(int i) {
            return isWithin(i, 0, tokenCount - 1) ? numbers[i] : 0;
        }

        private void addToken(int token, int place, int number) {
            if (tokenCount < tokens.length) {
                tokens[tokenCount] = token;
                places[tokenCount] = place;
                numbers[tokenCount] = number;
                tokenCount++;
            }
        }

        private int byteAt(int i) {
            return isWithin(i, 0, size - 1) ? bytes[i] : NONE;
        }

        private static boolean isLetter(int b) {
            return b >= 'a' && b <= 'z';
        }

        private static boolean isDigit(int b) {
            return b >= '0' && b <= '9';
        }

        private void skipBlanks() {
            while (at < size && (byteAt(at) == 32 || byteAt(at) == 10)) {
                at++;
            }
        }

        private int takeToken() {
            if (at >= size) {
                return END;
            }
            int from = at;
            int first = byteAt(at);
            at++;
            if (isLetter(first)) {
                while (at < size && isLetter(byteAt(at))) {
                    at++;
                }
                return wordIn(from);
            }
            if (isDigit(first)) {
                while (at < size && isDigit(byteAt(at))) {
                    at++;
                }
                return at - from > MOST_DIGITS ? FAULTY : NUMBER;
            }
            for (int i = 0; i < SIGNS.length(); i++) {
                if (SIGNS.charAt(i) == first) {
                    return FIRST_SIGN + i;
                }
            }
            return FAULTY;
        }

        /** The KEY or NAME that stands from a place up to where the tape was read. */
        private int wordIn(int from) {
            int word = 0;
            int next = from;
            boolean same = true;
            for (int i = 0; i < WORDS.length(); i++) {
                char letter = WORDS.charAt(i);
                if (letter != ' ') {
                    same = same && next < at && byteAt(next) == letter;
                    next++;
                } else {
                    if (same && next == at) {
                        return word;
                    }
                    word++;
                    next = from;
                    same = true;
                }
            }
            return FAULTY;
        }

        private int numberOf(int from) {
            int number = 0;
            for (int i = from; i < at; i++) {
                number = number * 10 + byteAt(i) - '0';
            }
            return number;
        }
    }

    /** Reads THE TAPE as the grammar tells, into the code of a TEXT, up to its FAULT. */
    private static final class Parser {
        /** The levels of an E, from what binds least on: or, and, < =, + -, *, ONE. */
        private static final int OR_LEVEL = 0, NOT_LEVEL = 2, ONE_LEVEL = 5;
        private static final int MOST_OPEN = 5;

        private int at;
        private int open;
        /** Which TOKEN can't stand, or NONE. */
        private int fault;

        /** The place of the FAULT, or NONE. */
        int parse(Tape tape, Text text) {
            tape.split();
            text.clear();
            at = 0;
            open = 0;
            fault = NONE;
            for (int part = 0; part < PARTS_OF_TEXT; part++) {
                expect(tape, Tape.MAY + part);
                parseLevel(tape, text, OR_LEVEL);
                text.endPart(part);
                expect(tape, Tape.SEMICOLON);
            }
            expect(tape, Tape.END);
            return fault == NONE ? NONE : tape.placeOf(fault);
        }

        /** The depth is held low by MOST_OPEN: deeper levels stand behind a TOKEN that opens. */
        private void parseLevel(Tape tape, Text text, int level) {
            if (level >= ONE_LEVEL) {
                parseOne(tape, text);
                return;
            }
            if (level == NOT_LEVEL && current(tape) == Tape.NOT) {
                if (opens(tape)) {
                    parseLevel(tape, text, NOT_LEVEL);
                    open--;
                    text.add(Text.codeOf(Tape.NOT));
                }
                return;
            }
            parseLevel(tape, text, level + 1);
            int most = level == NOT_LEVEL ? 1 : MOST_BYTES;
            for (int i = 0; i < most && levelOf(current(tape)) == level; i++) {
                int operator = current(tape);
                at++;
                parseLevel(tape, text, level + 1);
                text.add(Text.codeOf(operator));
            }
        }

        private void parseOne(Tape tape, Text text) {
            int token = current(tape);
            if (token == Tape.NUMBER) {
                text.add(tape.numberAt(at));
                at++;
            } else if (token < Tape.NAMES) {
                text.add(Text.codeOf(token));
                at++;
            } else if (token == Tape.MINUS) {
                if (opens(tape)) {
                    parseOne(tape, text);
                    open--;
                    text.add(Text.codeOf(Text.NEGATE));
                }
            } else if (token == Tape.OPEN) {
                if (opens(tape)) {
                    parseLevel(tape, text, OR_LEVEL);
                    expect(tape, Tape.CLOSE);
                    open--;
                }
            } else {
                fail();
            }
        }

        private boolean opens(Tape tape) {
            if (open >= MOST_OPEN) {
                fail();
                return false;
            }
            open++;
            at++;
            return true;
        }

        private void expect(Tape tape, int token) {
            if (current(tape) == token) {
                at++;
            } else {
                fail();
            }
        }

        /** Behind a FAULT no TOKEN can stand, so that all that is open ends at once. */
        private int current(Tape tape) {
            return fault == NONE ? tape.token(at) : Tape.FAULTY;
        }

        private void fail() {
            if (fault == NONE) {
                fault = at;
            }
        }

        private static int levelOf(int token) {
            switch (token) {
                case Tape.OR: return OR_LEVEL;
                case Tape.AND: return 1;
                case Tape.LESS:
                case Tape.EQUAL: return NOT_LEVEL;
                case Tape.PLUS:
                case Tape.MINUS: return 3;
                case Tape.TIMES: return 4;
                default: return NONE;
            }
        }
    }

    /** The code of a TEXT: numbers as they are, all else below 0, what is reckoned behind what it needs. */
    private static final class Text {
        static final int NEGATE = 24;

        private final int[] code = new int[MOST_BYTES];
        private final int[] ends = new int[PARTS_OF_TEXT];
        private final int[] stack = new int[MOST_BYTES];
        private int size;
        private int height;

        static int codeOf(int token) {
            return -1 - token;
        }

        void clear() {
            size = 0;
        }

        void add(int step) {
            if (size < code.length) {
                code[size] = step;
                size++;
            }
        }

        void endPart(int part) {
            if (isWithin(part, 0, ends.length - 1)) {
                ends[part] = size;
            }
        }

        int valueOf(int part, int[] facts) {
            if (!isWithin(part, 0, ends.length - 1)) {
                return 0;
            }
            height = 0;
            int from = part == 0 ? 0 : ends[part - 1];
            for (int i = from; i < ends[part] && i < code.length; i++) {
                if (code[i] >= 0) {
                    push(code[i]);
                } else {
                    take(codeOf(code[i]), facts);
                }
            }
            return pop();
        }

        private void take(int token, int[] facts) {
            if (isWithin(token, 0, facts.length - 1)) {
                push(facts[token]);
            } else if (token == Tape.NOT) {
                push(pop() == 0 ? 1 : 0);
            } else if (token == NEGATE) {
                push(-pop());
            } else {
                int right = pop();
                int left = pop();
                push(join(token, left, right));
            }
        }

        private static int join(int token, int left, int right) {
            switch (token) {
                case Tape.OR: return left != 0 || right != 0 ? 1 : 0;
                case Tape.AND: return left != 0 && right != 0 ? 1 : 0;
                case Tape.LESS: return left < right ? 1 : 0;
                case Tape.EQUAL: return left == right ? 1 : 0;
                case Tape.PLUS: return left + right;
                case Tape.MINUS: return left - right;
                case Tape.TIMES: return left * right;
                default: return 0;
            }
        }

        private void push(int value) {
            if (height < stack.length) {
                stack[height] = value;
                height++;
            }
        }

        private int pop() {
            if (height < 1) {
                return 0;
            }
            height--;
            return stack[height];
        }
    }

    /** All MARKS that count, and WORTH of the one ASKING whose MARKS were laid on it. */
    private static final class Scale {
        /** What each number of MARKS that a READER can give (1 .. 6) divides. */
        private static final int UNIT = 60;
        private static final int MOST_STEPS = 200;

        private final int[] sums = new int[MOST_READERS];
        private final int[] counts = new int[MOST_READERS];
        private int sum;
        private int count;
        private long off;
        private int laid;
        long above;
        long below;

        void clear() {
            for (int r = 0; r < sums.length && r < counts.length; r++) {
                sums[r] = 0;
                counts[r] = 0;
            }
            sum = 0;
            count = 0;
            off = 0;
            laid = 0;
        }

        void add(int reader, int mark) {
            if (isWithin(reader, 0, MOST_READERS - 1)) {
                sums[reader] += mark;
                counts[reader]++;
                sum += mark;
                count++;
            }
        }

        /** Adds how far a MARK is off the mean of its READER, in UNITs. */
        void lay(int reader, int mark) {
            if (isWithin(reader, 0, MOST_READERS - 1) && counts[reader] > 0) {
                off += UNIT * mark - UNIT / counts[reader] * sums[reader];
                laid++;
            }
        }

        void settle() {
            above = off * count + (long) UNIT * laid * sum;
            below = (long) UNIT * laid * count;
            long common = commonDivisor(Math.abs(above), below);
            if (common > 0) {
                above = above / common;
                below = below / common;
            }
        }

        boolean hasWorth() {
            return below > 0;
        }

        int cutWorth() {
            return below > 0 ? (int) (above / below) : 0;
        }

        private static long commonDivisor(long a, long b) {
            long larger = a;
            long smaller = b;
            for (int i = 0; i < MOST_STEPS && smaller > 0; i++) {
                long rest = larger % smaller;
                larger = smaller;
                smaller = rest;
            }
            return larger;
        }
    }

    /** Looks for the set of most WORTH among the ASKINGS that are FIT. */
    private static final class Choice {
        private final int[] askings = new int[MOST_ASKINGS];
        private final int[] sums = new int[MOST_ASKINGS];
        private final int[] worths = new int[MOST_ASKINGS];
        /** What those from each one on come to together. */
        private final int[] restSums = new int[MOST_ASKINGS + 1];
        private final int[] restWorths = new int[MOST_ASKINGS + 1];
        private final int[] restBits = new int[MOST_ASKINGS + 1];
        private int size;
        private int left;
        private int bestWorth;
        private int bestSum;
        private int bestBits;

        void start(int left) {
            this.left = left;
            size = 0;
            bestWorth = 0;
            bestSum = 0;
            bestBits = 0;
        }

        /** One without WORTH above 0 is left out: every set is better without it, as each SUM is above 0. */
        void add(int asking, int sum, int worth) {
            if (worth > 0 && sum <= left && size < MOST_ASKINGS) {
                askings[size] = asking;
                sums[size] = sum;
                worths[size] = worth;
                size++;
            }
        }

        int bestSet() {
            restSums[size] = 0;
            restWorths[size] = 0;
            restBits[size] = 0;
            for (int i = size - 1; i >= 0; i--) {
                restSums[i] = restSums[i + 1] + sums[i];
                restWorths[i] = restWorths[i + 1] + worths[i];
                restBits[i] = restBits[i + 1] | 1 << askings[i];
            }
            search(this, 0, 0, 0, 0);
            return bestBits;
        }

        /** Decides on each from the i-th on, those ahead of it being decided on. */
        private static void search(Choice of, int i, int worth, int sum, int bits) {
            if (i < 0 || i > of.size) {
                return;
            }
            if (sum + of.restSums[i] <= of.left) {
                of.keepBetter(worth + of.restWorths[i], sum + of.restSums[i], bits | of.restBits[i]);
                return;
            }
            // not all of the rest can be taken, so that what comes is less than it
            if (worth + of.restWorths[i] <= of.bestWorth || i == of.size) {
                return;
            }
            if (sum + of.sums[i] <= of.left) {
                search(of, i + 1, worth + of.worths[i], sum + of.sums[i], bits | 1 << of.askings[i]);
            }
            search(of, i + 1, worth, sum, bits);
        }

        private void keepBetter(int worth, int sum, int bits) {
            boolean better = worth > bestWorth || worth == bestWorth
                    && (sum < bestSum || sum == bestSum && bits < bestBits);
            if (better) {
                bestWorth = worth;
                bestSum = sum;
                bestBits = bits;
            }
        }
    }

    /** Pairs ASKINGS with READERS one by one, moving earlier pairs where that makes room. */
    private static final class Pairing {
        private final int[] loads = new int[MOST_READERS];
        private final int[] used = new int[MOST_READERS];
        private final int[] needs = new int[MOST_ASKINGS];
        private final int[] open = new int[MOST_ASKINGS];
        private final int[] held = new int[MOST_ASKINGS];
        private int readers;
        private int askings;
        private int seen;

        void clear() {
            readers = 0;
            askings = 0;
        }

        void addReader(int load) {
            if (readers < MOST_READERS) {
                loads[readers] = load;
                used[readers] = 0;
                readers++;
            }
        }

        void addAsking(int need, int openReaders) {
            if (askings < MOST_ASKINGS) {
                needs[askings] = need;
                open[askings] = openReaders;
                held[askings] = 0;
                askings++;
            }
        }

        int mostPairs() {
            int pairs = 0;
            for (int i = 0; i < askings; i++) {
                for (int k = 0; k < needs[i]; k++) {
                    seen = 0;
                    if (gains(i, 0)) {
                        pairs++;
                    }
                }
            }
            return pairs;
        }

        /** Whether an ASKING got one READER more; each step sees a READER anew, so the depth is low. */
        private boolean gains(int asking, int depth) {
            if (depth > MOST_READERS) {
                return false;
            }
            for (int r = 0; r < readers; r++) {
                if (hasBit(open[asking] & ~held[asking] & ~seen, r)) {
                    seen |= 1 << r;
                    if (hasRoom(r, depth)) {
                        held[asking] |= 1 << r;
                        return true;
                    }
                }
            }
            return false;
        }

        /** Whether a READER has room for one more, if need be where another ASKING takes another one. */
        private boolean hasRoom(int reader, int depth) {
            if (used[reader] < loads[reader]) {
                used[reader]++;
                return true;
            }
            for (int i = 0; i < askings; i++) {
                if (hasBit(held[i], reader) && gains(i, depth + 1)) {
                    held[i] &= ~(1 << reader);
                    return true;
                }
            }
            return false;
        }
    }

    /** A row of the host, or a missing one; items keep the sign of their sort. */
    private static final class Sheet {
        private static final int BYTES = 0, SHORTS = 1, INTS = 2;

        private final int[] items = new int[MOST_CELLS];
        private int size;
        int sort = NONE;

        static boolean isSort(int sort) {
            return isWithin(sort, BYTES, INTS);
        }

        boolean isMissing() {
            return sort == NONE;
        }

        void vanish() {
            sort = NONE;
            size = 0;
        }

        void become(int newSort, int n) {
            sort = newSort;
            size = n;
            for (int i = 0; i < items.length; i++) {
                items[i] = 0;
            }
        }

        boolean holds(int i) {
            return isWithin(i, 0, size - 1) && i < items.length;
        }

        int item(int i) {
            return holds(i) ? items[i] : 0;
        }

        void put(int i, int v) {
            if (holds(i)) {
                items[i] = cut(v);
            }
        }

        private int cut(int v) {
            switch (sort) {
                case BYTES: return (byte) v;
                case SHORTS: return (short) v;
                default: return v;
            }
        }
    }
}
