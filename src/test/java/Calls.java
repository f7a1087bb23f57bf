/** The calls of the face by number, so that runs of them can be made and told. */
final class Calls {
    static final String[] NAMES = {
        "fund", "give", "fundTold", "reader", "readerTold", "ask", "asks", "told", "feed", "text", "force",
        "says", "bar", "barred", "deal", "places", "mark", "worth", "fit", "choose", "grant", "proof", "due",
        "stop", "back", "count", "sheet", "cell", "taken"};
    static final int[] PARAMETERS = {
        1, 2, 2, 3, 2, 6, 4, 2, 2, 0, 1, 3, 2, 2, 0, 0, 3, 2, 2, 1, 5, 2, 2, 1, 2, 1, 3, 3, 2};

    static int numberOf(String name) {
        for (int i = 0; i < NAMES.length; i++) {
            if (NAMES[i].equals(name)) {
                return i;
            }
        }
        throw new IllegalArgumentException(name);
    }

    static String told(int call, int[] a, long bytes) {
        StringBuilder s = new StringBuilder(NAMES[call]).append('(');
        for (int i = 0; i < PARAMETERS[call]; i++) {
            s.append(i == 0 ? "" : ", ").append(NAMES[call].equals("feed") && i == 1 ? bytes : a[i]);
        }
        return s.append(')').toString();
    }

    static long made(GiftOffice x, int call, int[] a, long bytes) {
        switch (NAMES[call]) {
            case "fund": return x.fund(a[0]);
            case "give": return x.give(a[0], a[1]);
            case "fundTold": return x.fundTold(a[0], a[1]);
            case "reader": return x.reader(a[0], a[1], a[2]);
            case "readerTold": return x.readerTold(a[0], a[1]);
            case "ask": return x.ask(a[0], a[1], a[2], a[3], a[4], a[5]);
            case "asks": return x.asks(a[0], a[1], a[2], a[3]);
            case "told": return x.told(a[0], a[1]);
            case "feed": return x.feed(a[0], bytes);
            case "text": return x.text();
            case "force": return x.force(a[0]);
            case "says": return x.says(a[0], a[1], a[2]);
            case "bar": return x.bar(a[0], a[1]);
            case "barred": return x.barred(a[0], a[1]);
            case "deal": return x.deal();
            case "places": return x.places();
            case "mark": return x.mark(a[0], a[1], a[2]);
            case "worth": return x.worth(a[0], a[1]);
            case "fit": return x.fit(a[0], a[1]);
            case "choose": return x.choose(a[0]);
            case "grant": return x.grant(a[0], a[1], a[2], a[3], a[4]);
            case "proof": return x.proof(a[0], a[1]);
            case "due": return x.due(a[0], a[1]);
            case "stop": return x.stop(a[0]);
            case "back": return x.back(a[0], a[1]);
            case "count": return x.count(a[0]);
            case "sheet": return x.sheet(a[0], a[1], a[2]);
            case "cell": return x.cell(a[0], a[1], a[2]);
            case "taken": return x.taken(a[0], a[1]);
            default: throw new IllegalArgumentException(NAMES[call]);
        }
    }
}
