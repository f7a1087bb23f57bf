import java.math.BigInteger;
import java.util.ArrayList;
import java.util.Arrays;
import java.util.List;
import java.util.TreeMap;
import java.util.TreeSet;
import java.util.function.ToIntFunction;

/**
 * A second writing of the document, slow and with the Java library, that shares no way of working with
 * GiftOffice: sums are fractions of BigInteger, sets are tried out, places are counted as a least cut,
 * texts become trees and their faults are thrown.
 */
final class Model {
    private static final int BAD = -2, STATE = -3, FULL = -4;
    private static final long NO = -(1L << 62);

    private static final class Fraction {
        final BigInteger above;
        final BigInteger below;

        Fraction(BigInteger above, BigInteger below) {
            BigInteger g = above.gcd(below);
            BigInteger sign = BigInteger.valueOf(below.signum());
            this.above = above.divide(g).multiply(sign);
            this.below = below.divide(g).multiply(sign);
        }

        static Fraction of(long n) {
            return new Fraction(BigInteger.valueOf(n), BigInteger.ONE);
        }

        Fraction plus(Fraction o) {
            return new Fraction(above.multiply(o.below).add(o.above.multiply(below)), below.multiply(o.below));
        }

        Fraction minus(Fraction o) {
            return plus(new Fraction(o.above.negate(), o.below));
        }

        Fraction by(long n) {
            return new Fraction(above, below.multiply(BigInteger.valueOf(n)));
        }

        static Fraction mean(List<Fraction> all) {
            Fraction sum = of(0);
            for (Fraction f : all) {
                sum = sum.plus(f);
            }
            return sum.by(all.size());
        }

        int cut() {
            return above.divide(below).intValue();
        }
    }

    private static final class Fund {
        int end;
        int given;
    }

    private static final class Reader {
        int themes;
        int house;
        int load;
    }

    private static final class Grant {
        int fund;
        int parts;
        int span;
        int day;
        boolean stopped;
        int back;
        List<Integer> losses = new ArrayList<>();
    }

    private static final class Asking {
        int kind;
        int house;
        int second;
        int theme;
        int sum;
        int day;
        Text text;
        TreeSet<Integer> readers = new TreeSet<>();
        TreeSet<Integer> bars = new TreeSet<>();
        TreeMap<Integer, Integer> marks = new TreeMap<>();
        Grant grant;

        List<Integer> parts() {
            List<Integer> parts = new ArrayList<>();
            for (int k = 0; k < grant.parts; k++) {
                parts.add(sum / grant.parts + (k == grant.parts - 1 ? sum % grant.parts : 0));
            }
            return parts;
        }

        int promised() {
            int sum = 0;
            for (int k = grant.losses.size(); k < grant.parts && !grant.stopped; k++) {
                sum += parts().get(k);
            }
            return sum;
        }

        int paid() {
            int sum = -grant.back;
            for (int k = 0; k < grant.losses.size(); k++) {
                sum += parts().get(k) - grant.losses.get(k);
            }
            return sum;
        }
    }

    /** The values of the NAMES. */
    private static final class Facts {
        int kind;
        int sum;
        int theme;
        int day;
        int mark;
        int readers;
        int behind;
    }

    private static final class Text {
        List<ToIntFunction<Facts>> parts = new ArrayList<>();
    }

    private static final class Fault extends Exception {
        private static final long serialVersionUID = 1;
        final int place;

        Fault(int place) {
            this.place = place;
        }
    }

    /** Reads a text from the left, one method for each line of the grammar. */
    private static final class Reading {
        private final String all;
        private int at;
        private int open;

        Reading(String all) {
            this.all = all;
        }

        private void blanks() {
            while (at < all.length() && " \n".indexOf(all.charAt(at)) >= 0) {
                at++;
            }
        }

        /** The next TOKEN, which is not taken; "" at the end. A sign that begins none is a TOKEN here. */
        private String peek() {
            blanks();
            int to = at;
            for (String letters : new String[] {"abcdefghijklmnopqrstuvwxyz", "0123456789"}) {
                while (to < all.length() && (to == at || letters.indexOf(all.charAt(at)) >= 0)
                        && letters.indexOf(all.charAt(to)) >= 0) {
                    to++;
                }
            }
            return all.substring(at, Math.min(all.length(), Math.max(to, at + 1)));
        }

        private void take() {
            at += peek().length();
        }

        private void take(String token) throws Fault {
            if (!peek().equals(token)) {
                throw new Fault(at);
            }
            take();
        }

        Text text() throws Fault {
            Text text = new Text();
            for (String key : new String[] {"may", "pass", "late"}) {
                take(key);
                text.parts.add(e());
                take(";");
            }
            take("");
            return text;
        }

        private void open() throws Fault {
            if (open == 5) {
                throw new Fault(at);
            }
            open++;
            take();
        }

        private ToIntFunction<Facts> e() throws Fault {
            ToIntFunction<Facts> e = and();
            while (peek().equals("or")) {
                take();
                ToIntFunction<Facts> left = e;
                ToIntFunction<Facts> right = and();
                e = f -> left.applyAsInt(f) == 0 && right.applyAsInt(f) == 0 ? 0 : 1;
            }
            return e;
        }

        private ToIntFunction<Facts> and() throws Fault {
            ToIntFunction<Facts> e = not();
            while (peek().equals("and")) {
                take();
                ToIntFunction<Facts> left = e;
                ToIntFunction<Facts> right = not();
                e = f -> left.applyAsInt(f) == 0 || right.applyAsInt(f) == 0 ? 0 : 1;
            }
            return e;
        }

        private ToIntFunction<Facts> not() throws Fault {
            if (peek().equals("not")) {
                open();
                ToIntFunction<Facts> of = not();
                open--;
                return f -> of.applyAsInt(f) == 0 ? 1 : 0;
            }
            ToIntFunction<Facts> left = sum();
            if (peek().equals("<")) {
                take();
                ToIntFunction<Facts> right = sum();
                return f -> left.applyAsInt(f) < right.applyAsInt(f) ? 1 : 0;
            }
            if (peek().equals("=")) {
                take();
                ToIntFunction<Facts> right = sum();
                return f -> left.applyAsInt(f) == right.applyAsInt(f) ? 1 : 0;
            }
            return left;
        }

        private ToIntFunction<Facts> sum() throws Fault {
            ToIntFunction<Facts> e = term();
            while (peek().equals("+") || peek().equals("-")) {
                int sign = peek().equals("+") ? 1 : -1;
                take();
                ToIntFunction<Facts> left = e;
                ToIntFunction<Facts> right = term();
                e = f -> left.applyAsInt(f) + sign * right.applyAsInt(f);
            }
            return e;
        }

        private ToIntFunction<Facts> term() throws Fault {
            ToIntFunction<Facts> e = one();
            while (peek().equals("*")) {
                take();
                ToIntFunction<Facts> left = e;
                ToIntFunction<Facts> right = one();
                e = f -> left.applyAsInt(f) * right.applyAsInt(f);
            }
            return e;
        }

        private ToIntFunction<Facts> one() throws Fault {
            String token = peek();
            if (token.matches("[0-9]{1,4}")) {
                take();
                int n = Integer.parseInt(token);
                return f -> n;
            }
            if (token.equals("-")) {
                open();
                ToIntFunction<Facts> of = one();
                open--;
                return f -> -of.applyAsInt(f);
            }
            if (token.equals("(")) {
                open();
                ToIntFunction<Facts> of = e();
                take(")");
                open--;
                return of;
            }
            ToIntFunction<Facts> name = name(token);
            take();
            return name;
        }

        private ToIntFunction<Facts> name(String token) throws Fault {
            switch (token) {
                case "kind": return f -> f.kind;
                case "sum": return f -> f.sum;
                case "theme": return f -> f.theme;
                case "day": return f -> f.day;
                case "mark": return f -> f.mark;
                case "readers": return f -> f.readers;
                case "behind": return f -> f.behind;
                default: throw new Fault(at);
            }
        }
    }

    private final List<Fund> funds = new ArrayList<>();
    private final List<Reader> readers = new ArrayList<>();
    private final List<Asking> askings = new ArrayList<>();
    private final List<Text> texts = new ArrayList<>();
    private int rule;
    private final StringBuilder tape = new StringBuilder();
    private final Object[] sheets = new Object[4];

    Model() {
        try {
            texts.add(new Reading("may sum < 5000 ; pass 49 < mark ; late behind ;").text());
        } catch (Fault f) {
            throw new IllegalStateException(f);
        }
    }

    private static boolean in(long n, long least, long most) {
        return least <= n && n <= most;
    }

    private static boolean has(List<?> all, int i) {
        return in(i, 0, all.size() - 1);
    }

    private boolean barred(int r, Asking a) {
        int house = readers.get(r).house;
        return house == a.house || a.kind == 3 && house == a.second || a.bars.contains(r);
    }

    private List<Integer> counting(Asking a) {
        List<Integer> found = new ArrayList<>();
        for (int r : a.marks.keySet()) {
            if (!barred(r, a)) {
                found.add(r);
            }
        }
        return found;
    }

    private Fraction worth(Asking of) {
        List<Fraction> all = new ArrayList<>();
        List<List<Fraction>> byReader = new ArrayList<>();
        for (int r = 0; r < readers.size(); r++) {
            byReader.add(new ArrayList<>());
        }
        for (Asking a : askings) {
            for (int r : counting(a)) {
                all.add(Fraction.of(a.marks.get(r)));
                byReader.get(r).add(Fraction.of(a.marks.get(r)));
            }
        }
        List<Fraction> scaled = new ArrayList<>();
        for (int r : counting(of)) {
            scaled.add(Fraction.of(of.marks.get(r)).minus(Fraction.mean(byReader.get(r))).plus(Fraction.mean(all)));
        }
        return scaled.isEmpty() ? null : Fraction.mean(scaled);
    }

    private Facts facts(Asking a, boolean came, int behind) {
        Facts f = new Facts();
        f.kind = a.kind;
        f.sum = a.sum;
        f.theme = a.theme;
        f.day = a.day;
        f.behind = behind;
        f.mark = came && worth(a) != null ? worth(a).cut() : 0;
        f.readers = came ? counting(a).size() : 0;
        return f;
    }

    private int need(int kind) {
        switch (kind) {
            case 0: return 2;
            case 1: return need(0) - 1;
            case 2: return need(0) + 1;
            case 3: return need(2);
            case 4: return need(2) - 1;
            default: return need(1);
        }
    }

    private int load(int r) {
        int reads = 0;
        for (Asking a : askings) {
            reads += a.readers.contains(r) ? 1 : 0;
        }
        return reads;
    }

    private boolean fit(Fund f, Asking a) {
        return worth(a) != null && (f.end & 1 << a.theme) != 0 && a.grant == null
                && a.text.parts.get(1).applyAsInt(facts(a, true, 0)) != 0;
    }

    /** What of a FUND: 0 PROMISED, 1 PAID. */
    private int bound(int fund, int what) {
        int sum = 0;
        for (Asking a : askings) {
            if (a.grant != null && a.grant.fund == fund) {
                sum += what == 0 ? a.promised() : a.paid();
            }
        }
        return sum;
    }

    private int left(int fund) {
        return funds.get(fund).given - bound(fund, 0) - bound(fund, 1);
    }

    private int ask(int[] a) {
        if (!in(a[0], 0, 5) || !in(a[1], 0, 9) || a[0] == 3 && !in(a[2], 0, 9) || !in(a[3], 0, 5)
                || !in(a[4], 1, 9999) || !in(a[5], 0, 999)) {
            return BAD;
        }
        Asking asking = new Asking();
        asking.kind = a[0];
        asking.house = a[1];
        asking.second = a[0] == 3 ? a[2] : -1;
        asking.theme = a[3];
        asking.sum = a[4];
        asking.day = a[5];
        asking.text = texts.get(rule);
        if (asking.text.parts.get(0).applyAsInt(facts(asking, false, 0)) == 0) {
            return STATE;
        }
        if (askings.size() == 14) {
            return FULL;
        }
        askings.add(asking);
        return askings.size() - 1;
    }

    private int item(Object row, int i) {
        if (row instanceof byte[]) {
            return ((byte[]) row)[i];
        }
        return row instanceof short[] ? ((short[]) row)[i] : ((int[]) row)[i];
    }

    private int size(Object row) {
        return row instanceof byte[] ? ((byte[]) row).length
                : row instanceof short[] ? ((short[]) row).length : ((int[]) row).length;
    }

    private int sort(Object row) {
        return row instanceof byte[] ? 0 : row instanceof short[] ? 1 : 2;
    }

    private int asks(int sheet, int sort, int from, int n) {
        if (!in(sheet, 0, 3) || !in(sort, 0, 2) || n < 0) {
            return BAD;
        }
        Object row = sheets[sheet];
        if (row == null) {
            return -11;
        }
        if (sort(row) != sort) {
            return -13;
        }
        int came = 0;
        for (long i = 0; i < n; i++) {
            int[] items = new int[6];
            for (int j = 0; j < 6; j++) {
                long place = from + 6 * i + j;
                if (!in(place, 0, size(row) - 1)) {
                    return -12;
                }
                items[j] = item(row, (int) place);
            }
            came += ask(items) >= 0 ? 1 : 0;
        }
        return came;
    }

    private int bits(TreeSet<Integer> set) {
        int bits = 0;
        for (int i : set) {
            bits += 1 << i;
        }
        return bits;
    }

    private int told(int asking, int what) {
        if (!has(askings, asking) || !in(what, 0, 12)) {
            return BAD;
        }
        Asking a = askings.get(asking);
        boolean granted = a.grant != null;
        int[] all = {a.kind, a.house, a.second, a.theme, a.sum, a.day, need(a.kind), bits(a.readers),
            counting(a).size(), granted ? a.grant.fund : -1, granted ? a.grant.losses.size() : 0,
            granted ? a.paid() : 0, granted ? a.promised() : 0};
        return all[what];
    }

    private int text() {
        if (texts.size() == 6) {
            return FULL;
        }
        String read = tape.toString();
        tape.setLength(0);
        try {
            texts.add(new Reading(read).text());
            return texts.size() - 1;
        } catch (Fault f) {
            return -100 - f.place;
        }
    }

    private int deal() {
        int got = 0;
        for (Asking a : askings) {
            if (!a.readers.isEmpty()) {
                continue;
            }
            List<Integer> can = new ArrayList<>();
            for (int r = 0; r < readers.size(); r++) {
                if (!barred(r, a) && load(r) < readers.get(r).load) {
                    can.add(r);
                }
            }
            can.sort((p, q) -> {
                int theme = (readers.get(q).themes >> a.theme & 1) - (readers.get(p).themes >> a.theme & 1);
                int reads = load(p) - load(q);
                return theme != 0 ? theme : reads != 0 ? reads : p - q;
            });
            if (can.size() >= need(a.kind)) {
                a.readers.addAll(can.subList(0, need(a.kind)));
                got++;
            }
        }
        return got;
    }

    /** The most pairs are as many as the least cut: of some READERS the LOADS, of the rest what NEED asks. */
    private int places() {
        int least = Integer.MAX_VALUE;
        for (int cut = 0; cut < 1 << readers.size(); cut++) {
            int sum = 0;
            for (int r = 0; r < readers.size(); r++) {
                sum += (cut >> r & 1) * readers.get(r).load;
            }
            for (Asking a : askings) {
                int open = 0;
                for (int r = 0; r < readers.size(); r++) {
                    open += (cut >> r & 1) == 0 && !barred(r, a) ? 1 : 0;
                }
                sum += Math.min(need(a.kind), open);
            }
            least = Math.min(least, sum);
        }
        return least;
    }

    private int choose(int fund) {
        if (!has(funds, fund)) {
            return BAD;
        }
        int n = askings.size();
        int[] worths = new int[n];
        int fits = 0;
        for (int i = 0; i < n; i++) {
            if (fit(funds.get(fund), askings.get(i))) {
                fits |= 1 << i;
                worths[i] = worth(askings.get(i)).cut();
            }
        }
        int best = 0;
        int bestWorth = 0;
        int bestSum = 0;
        for (int set = 1; set < 1 << n; set++) {
            if ((set & ~fits) != 0) {
                continue;
            }
            int worth = 0;
            int sum = 0;
            for (int i = 0; i < n; i++) {
                worth += (set >> i & 1) * worths[i];
                sum += (set >> i & 1) * askings.get(i).sum;
            }
            if (sum <= left(fund) && (worth > bestWorth || worth == bestWorth && sum < bestSum)) {
                best = set;
                bestWorth = worth;
                bestSum = sum;
            }
        }
        return best;
    }

    private int grant(int[] a) {
        if (!has(funds, a[0]) || !has(askings, a[1]) || !in(a[2], 1, 4) || !in(a[3], 1, 100) || !in(a[4], 0, 999)) {
            return BAD;
        }
        Asking to = askings.get(a[1]);
        if (!fit(funds.get(a[0]), to) || to.sum > left(a[0])) {
            return STATE;
        }
        Grant grant = new Grant();
        grant.fund = a[0];
        grant.parts = a[2];
        grant.span = a[3];
        grant.day = a[4];
        to.grant = grant;
        return left(a[0]);
    }

    private int proof(int asking, int day, boolean really) {
        if (!has(askings, asking) || !in(day, 0, 999)) {
            return BAD;
        }
        Asking a = askings.get(asking);
        if (a.grant == null || a.grant.stopped || a.grant.losses.size() == a.grant.parts) {
            return STATE;
        }
        int k = a.grant.losses.size();
        int behind = Math.max(0, day - (a.grant.day + k * a.grant.span));
        int part = a.parts().get(k);
        int loss = Math.min(part, Math.max(0, a.text.parts.get(2).applyAsInt(facts(a, true, behind))));
        if (really) {
            a.grant.losses.add(loss);
        }
        return part - loss;
    }

    private int stop(int asking) {
        if (!has(askings, asking)) {
            return BAD;
        }
        Asking a = askings.get(asking);
        if (a.grant == null || a.promised() == 0) {
            return STATE;
        }
        int back = a.promised();
        a.grant.stopped = true;
        return back;
    }

    private int back(int asking, int n) {
        if (!has(askings, asking) || n < 1) {
            return BAD;
        }
        Asking a = askings.get(asking);
        if (a.grant == null) {
            return STATE;
        }
        if (n > a.paid()) {
            return BAD;
        }
        a.grant.back += n;
        return a.paid();
    }

    private int count(int what) {
        int marks = 0;
        int grants = 0;
        for (Asking a : askings) {
            marks += counting(a).size();
            grants += a.grant == null ? 0 : 1;
        }
        int[] all = {funds.size(), readers.size(), askings.size(), texts.size(), tape.length(), marks, grants, rule};
        return in(what, 0, 7) ? all[what] : BAD;
    }

    private int sheet(int sheet, int sort, int n) {
        if (!in(sheet, 0, 3) || !in(sort, -1, 2) || sort >= 0 && n > 40) {
            return BAD;
        }
        if (sort >= 0 && n < 0) {
            return -14;
        }
        sheets[sheet] = sort < 0 ? null : sort == 0 ? new byte[n] : sort == 1 ? new short[n] : new int[n];
        return 1;
    }

    private int cell(int sheet, int i, int v) {
        if (!in(sheet, 0, 3)) {
            return BAD;
        }
        Object row = sheets[sheet];
        if (row == null) {
            return -11;
        }
        if (!in(i, 0, size(row) - 1)) {
            return -12;
        }
        if (row instanceof byte[]) {
            ((byte[]) row)[i] = (byte) v;
        } else if (row instanceof short[]) {
            ((short[]) row)[i] = (short) v;
        } else {
            ((int[]) row)[i] = v;
        }
        return 1;
    }

    private int taken(int asking, int k) {
        if (!in(k, 0, 5)) {
            return BAD;
        }
        if (!has(askings, asking)) {
            return -11;
        }
        String[] under = {"012345", "15", "234", "3", "4", "5"};
        Asking a = askings.get(asking);
        return under[k].indexOf('0' + a.kind) >= 0 ? a.house : -13;
    }

    private int fundTold(int fund, int what) {
        if (!has(funds, fund) || !in(what, 0, 4)) {
            return BAD;
        }
        Fund f = funds.get(fund);
        return new int[] {f.end, f.given, left(fund), bound(fund, 0), bound(fund, 1)}[what];
    }

    private int readerTold(int reader, int what) {
        if (!has(readers, reader) || !in(what, 0, 4)) {
            return BAD;
        }
        Reader r = readers.get(reader);
        int marks = 0;
        for (Asking a : askings) {
            marks += counting(a).contains(reader) ? 1 : 0;
        }
        return new int[] {r.themes, r.house, r.load, load(reader), marks}[what];
    }

    private int fund(int end) {
        if (!in(end, 0, 63)) {
            return BAD;
        }
        if (funds.size() == 5) {
            return FULL;
        }
        Fund f = new Fund();
        f.end = end;
        funds.add(f);
        return funds.size() - 1;
    }

    private int give(int fund, int n) {
        if (!has(funds, fund) || !in(n, 1, 1000000)) {
            return BAD;
        }
        if (funds.get(fund).given + n > 10000000) {
            return FULL;
        }
        funds.get(fund).given += n;
        return left(fund);
    }

    private int reader(int[] a) {
        if (!in(a[0], 0, 63) || !in(a[1], 0, 9) || !in(a[2], 1, 6)) {
            return BAD;
        }
        if (readers.size() == 8) {
            return FULL;
        }
        Reader r = new Reader();
        r.themes = a[0];
        r.house = a[1];
        r.load = a[2];
        readers.add(r);
        return readers.size() - 1;
    }

    private int feed(int n, long bytes) {
        if (!in(n, 1, 8)) {
            return BAD;
        }
        if (tape.length() + n > 160) {
            return FULL;
        }
        for (int i = 0; i < n; i++) {
            tape.append((char) (bytes >>> 8 * i & 255));
        }
        return tape.length();
    }

    private int force(int text) {
        if (!has(texts, text)) {
            return BAD;
        }
        int was = rule;
        rule = text;
        return was;
    }

    private long says(int asking, int part, int behind) {
        if (!has(askings, asking) || !in(part, 0, 2) || !in(behind, 0, 999)) {
            return NO;
        }
        Asking a = askings.get(asking);
        return a.text.parts.get(part).applyAsInt(facts(a, true, part == 2 ? behind : 0));
    }

    private int mark(int reader, int asking, int m) {
        if (!has(readers, reader) || !has(askings, asking) || !in(m, 0, 100)) {
            return BAD;
        }
        Asking a = askings.get(asking);
        if (!a.readers.contains(reader) || barred(reader, a)) {
            return STATE;
        }
        a.marks.put(reader, m);
        return counting(a).size();
    }

    private long worth(int asking, int what) {
        Fraction worth = has(askings, asking) ? worth(askings.get(asking)) : null;
        if (worth == null || !in(what, 0, 1)) {
            return NO;
        }
        return (what == 0 ? worth.above : worth.below).longValueExact();
    }

    long made(int call, int[] a, long bytes) {
        boolean pair = a.length > 1 && has(readers, a[0]) && has(askings, a[1]);
        switch (Calls.NAMES[call]) {
            case "fund": return fund(a[0]);
            case "give": return give(a[0], a[1]);
            case "fundTold": return fundTold(a[0], a[1]);
            case "reader": return reader(a);
            case "readerTold": return readerTold(a[0], a[1]);
            case "ask": return ask(Arrays.copyOf(a, 6));
            case "asks": return asks(a[0], a[1], a[2], a[3]);
            case "told": return told(a[0], a[1]);
            case "feed": return feed(a[0], bytes);
            case "text": return text();
            case "force": return force(a[0]);
            case "says": return says(a[0], a[1], a[2]);
            case "bar": return !pair ? BAD : askings.get(a[1]).bars.add(a[0]) ? 1 : 0;
            case "barred": return !pair ? BAD : barred(a[0], askings.get(a[1])) ? 1 : 0;
            case "deal": return deal();
            case "places": return places();
            case "mark": return mark(a[0], a[1], a[2]);
            case "worth": return worth(a[0], a[1]);
            case "fit": return !has(funds, a[0]) || !has(askings, a[1]) ? BAD
                    : fit(funds.get(a[0]), askings.get(a[1])) ? 1 : 0;
            case "choose": return choose(a[0]);
            case "grant": return grant(a);
            case "proof": return proof(a[0], a[1], true);
            case "due": return proof(a[0], a[1], false);
            case "stop": return stop(a[0]);
            case "back": return back(a[0], a[1]);
            case "count": return count(a[0]);
            case "sheet": return sheet(a[0], a[1], a[2]);
            case "cell": return cell(a[0], a[1], a[2]);
            case "taken": return taken(a[0], a[1]);
            default: throw new IllegalArgumentException(Calls.NAMES[call]);
        }
    }
}
