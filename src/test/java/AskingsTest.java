/** Promises 7 to 9 and 28 to 30: askings, one by one and from sheets, and the host. */
public final class AskingsTest {
    private static final Check CHECK = new Check();

    public static void main(String[] args) {
        asking();
        askingRefused();
        askingTold();
        sheets();
        cells();
        fromSheets();
        fromSheetsRefused();
        taken();
        CHECK.end();
    }

    private static void asking() {
        GiftOffice x = new GiftOffice();
        CHECK.due("ask: least of all", x.ask(0, 0, -7, 0, 1, 0), 0);
        CHECK.due("ask: most of all", x.ask(5, 9, 99, 5, 4999, 999), 1);
        CHECK.due("ask: a JOINT", x.ask(3, 9, 9, 5, 4999, 999), 2);
        CHECK.due("ask: may is 0", x.ask(0, 0, 0, 0, 5000, 0), -3);
        Check.rule(x, "may kind = 2 and theme = 1 and sum = 9999 and day = 7; pass 1; late 0;");
        CHECK.due("ask: may of THE RULE", x.ask(2, 0, 0, 1, 9999, 7), 3);
        CHECK.due("ask: another KIND", x.ask(1, 0, 0, 1, 9999, 7), -3);
        CHECK.due("ask: another THEME", x.ask(2, 0, 0, 2, 9999, 7), -3);
        CHECK.due("ask: another SUM", x.ask(2, 0, 0, 1, 9998, 7), -3);
        CHECK.due("ask: another DAY", x.ask(2, 0, 0, 1, 9999, 8), -3);
        Check.rule(x, "may mark + readers + behind; pass 1; late 0;");
        CHECK.due("ask: no WORTH, MARKS and behind yet", x.ask(2, 0, 0, 1, 9999, 7), -3);
        Check.rule(x, "may -1; pass 1; late 0;");
        CHECK.due("ask: what is not 0 is true", x.ask(2, 0, 0, 1, 9999, 7), 4);
        x.force(0);
        CHECK.due("ask: TEXT 0 again", x.ask(2, 0, 0, 1, 5000, 7), -3);
        for (int i = 5; i < 14; i++) {
            CHECK.due("ask: more", x.ask(0, 0, 0, 0, 1, 0), i);
        }
        CHECK.due("ask: a fifteenth", x.ask(0, 0, 0, 0, 1, 0), -4);
        CHECK.due("ask: STATE ahead of FULL", x.ask(0, 0, 0, 0, 5000, 0), -3);
        CHECK.due("ask: BAD ahead of STATE", x.ask(6, 0, 0, 0, 5000, 0), -2);
        CHECK.due("count(2)", x.count(2), 14);
        afterOthers();
    }

    /** What was reckoned for another ASKING leaves nothing behind. */
    private static void afterOthers() {
        GiftOffice x = new GiftOffice();
        x.reader(0, 0, 6);
        x.ask(1, 9, 0, 0, 10, 0);
        x.deal();
        x.mark(0, 0, 77);
        Check.rule(x, "may mark + readers + behind; pass 1; late 0;");
        CHECK.due("says of the first", x.says(0, 2, 9), 9);
        CHECK.due("ask: no WORTH, MARKS and behind of another one", x.ask(1, 9, 0, 0, 10, 0), -3);
    }

    private static void askingRefused() {
        GiftOffice x = new GiftOffice();
        int[][] bad = {
            {-1, 0, 0, 0, 1, 0}, {6, 0, 0, 0, 1, 0}, {0, -1, 0, 0, 1, 0}, {0, 10, 0, 0, 1, 0},
            {3, 0, -1, 0, 1, 0}, {3, 0, 10, 0, 1, 0}, {0, 0, 0, -1, 1, 0}, {0, 0, 0, 6, 1, 0},
            {0, 0, 0, 0, 0, 0}, {0, 0, 0, 0, 10000, 0}, {0, 0, 0, 0, 1, -1}, {0, 0, 0, 0, 1, 1000}};
        for (int[] b : bad) {
            CHECK.due("ask: bad", x.ask(b[0], b[1], b[2], b[3], b[4], b[5]), -2);
        }
        CHECK.due("count(2)", x.count(2), 0);
    }

    private static void askingTold() {
        GiftOffice x = new GiftOffice();
        int[] needs = {2, 1, 3, 3, 2, 1};
        for (int kind = 0; kind < 6; kind++) {
            x.ask(kind, kind + 1, kind + 2, 5 - kind, 100 + kind, 200 + kind);
        }
        for (int kind = 0; kind < 6; kind++) {
            int second = kind == 3 ? 5 : -1;
            int[] due = {kind, kind + 1, second, 5 - kind, 100 + kind, 200 + kind, needs[kind], 0, 0, -1, 0, 0, 0};
            for (int what = 0; what < due.length; what++) {
                CHECK.due("told(" + kind + ", " + what + ")", x.told(kind, what), due[what]);
            }
        }
        CHECK.due("told(0, 13)", x.told(0, 13), -2);
        CHECK.due("told(0, -1)", x.told(0, -1), -2);
        CHECK.due("told(6, 0)", x.told(6, 0), -2);
        CHECK.due("told(-1, 0)", x.told(-1, 0), -2);
    }

    private static void sheets() {
        GiftOffice x = new GiftOffice();
        CHECK.due("sheet(-1, 0, 1)", x.sheet(-1, 0, 1), -2);
        CHECK.due("sheet(4, 0, 1)", x.sheet(4, 0, 1), -2);
        CHECK.due("sheet(0, -2, 1)", x.sheet(0, -2, 1), -2);
        CHECK.due("sheet(0, 3, 1)", x.sheet(0, 3, 1), -2);
        CHECK.due("sheet(0, 0, 41)", x.sheet(0, 0, 41), -2);
        CHECK.due("sheet(0, 0, -1)", x.sheet(0, 0, -1), -14);
        CHECK.due("sheet(0, 0, MIN)", x.sheet(0, 0, Integer.MIN_VALUE), -14);
        CHECK.due("sheet: BAD ahead of -14", x.sheet(0, 3, -1), -2);
        CHECK.due("sheet: still missing", x.cell(0, 0, 0), -11);
        CHECK.due("sheet(0, 0, 40)", x.sheet(0, 0, 40), 1);
        CHECK.due("cell(0, 39, 1)", x.cell(0, 39, 1), 1);
        CHECK.due("sheet: refused, so it stays", x.sheet(0, 0, -1), -14);
        CHECK.due("cell(0, 39, 1)", x.cell(0, 39, 1), 1);
        CHECK.due("sheet: missing, n does not matter", x.sheet(0, -1, 41), 1);
        CHECK.due("cell: missing", x.cell(0, 0, 0), -11);
        CHECK.due("sheet: missing, n does not matter", x.sheet(0, -1, -1), 1);
        CHECK.due("sheet: of another sort in place of one", x.sheet(3, 1, 6), 1);
        row(x, 3, 0, 3, 1, 2, 3, 50, 5);
        CHECK.due("asks", x.asks(3, 1, 0, 1), 1);
        CHECK.due("sheet: the same again", x.sheet(3, 1, 6), 1);
        CHECK.due("cell", x.cell(3, 4, 60), 1);
        CHECK.due("asks", x.asks(3, 1, 0, 1), 1);
        int[] due = {0, 0, -1, 0, 60, 0};
        for (int what = 0; what < due.length; what++) {
            CHECK.due("sheet: all 0, told(1, " + what + ")", x.told(1, what), due[what]);
        }
        CHECK.due("sheet(3, 2, 0)", x.sheet(3, 2, 0), 1);
        CHECK.due("cell: a row of none", x.cell(3, 0, 0), -12);
        CHECK.due("asks: a row of none", x.asks(3, 2, 0, 0), 0);
    }

    private static void cells() {
        GiftOffice x = new GiftOffice();
        x.sheet(1, 2, 3);
        CHECK.due("cell(-1, 0, 0)", x.cell(-1, 0, 0), -2);
        CHECK.due("cell(4, 0, 0)", x.cell(4, 0, 0), -2);
        CHECK.due("cell(0, 9, 0)", x.cell(0, 9, 0), -11);
        CHECK.due("cell(1, 3, 0)", x.cell(1, 3, 0), -12);
        CHECK.due("cell(1, -1, 0)", x.cell(1, -1, 0), -12);
        CHECK.due("cell(1, MAX, 0)", x.cell(1, Integer.MAX_VALUE, 0), -12);
        CHECK.due("cell(1, 2, 5)", x.cell(1, 2, 5), 1);
        CHECK.due("as bytes: 300 is 44", kept(0, 300), 44);
        CHECK.due("as bytes: 128 is below 0", kept(0, 128), -2);
        CHECK.due("as bytes: 127", kept(0, 127), 127);
        CHECK.due("as bytes: 65537 is 1", kept(0, 65537), 1);
        CHECK.due("as shorts: 300", kept(1, 300), 300);
        CHECK.due("as shorts: 65537 is 1", kept(1, 65537), 1);
        CHECK.due("as shorts: 40000 is below 0", kept(1, 40000), -2);
        CHECK.due("as ints: 4999", kept(2, 4999), 4999);
        CHECK.due("as ints: 65537", kept(2, 65537), -2);
    }

    /** The SUM of an ASKING that came from a SHEET of a sort, -2 if none came. */
    private static int kept(int sort, int sum) {
        GiftOffice x = new GiftOffice();
        x.sheet(0, sort, 6);
        x.cell(0, 4, sum);
        x.asks(0, sort, 0, 1);
        return x.told(0, 4);
    }

    private static void row(GiftOffice x, int sheet, int from, int... items) {
        for (int i = 0; i < items.length; i++) {
            CHECK.due("cell", x.cell(sheet, from + i, items[i]), 1);
        }
    }

    private static void fromSheets() {
        GiftOffice x = new GiftOffice();
        x.sheet(2, 1, 40);
        row(x, 2, 1, 0, 1, 2, 3, 400, 500);
        row(x, 2, 7, 3, 1, 2, 3, 401, 501);
        row(x, 2, 13, 3, 1, 10, 3, 402, 502);
        row(x, 2, 19, 0, 1, 0, 3, 5000, 503);
        row(x, 2, 25, 5, 9, 0, 5, 404, 504);
        CHECK.due("asks: refused ones are left out", x.asks(2, 1, 1, 5), 3);
        CHECK.due("count(2)", x.count(2), 3);
        CHECK.due("told(0, 4)", x.told(0, 4), 400);
        CHECK.due("told(0, 3)", x.told(0, 3), 3);
        CHECK.due("told(2, 3)", x.told(2, 3), 5);
        CHECK.due("told(0, 5)", x.told(0, 5), 500);
        CHECK.due("told(1, 2)", x.told(1, 2), 2);
        CHECK.due("told(2, 4)", x.told(2, 4), 404);
        CHECK.due("told(2, 1)", x.told(2, 1), 9);
        CHECK.due("asks: none", x.asks(2, 1, 1, 0), 0);
        CHECK.due("asks: none, from outside", x.asks(2, 1, 41, 0), 0);
        CHECK.due("asks: outside, two came", x.asks(2, 1, 25, 3), -12);
        CHECK.due("count(2): the one ahead came", x.count(2), 4);
        CHECK.due("asks: six fit at the end", x.asks(2, 1, 34, 1), 0);
        CHECK.due("asks: six do not fit at the end", x.asks(2, 1, 35, 1), -12);
        CHECK.due("asks: from below 0", x.asks(2, 1, -6, 2), -12);
        CHECK.due("asks: from far out", x.asks(2, 1, Integer.MAX_VALUE, Integer.MAX_VALUE), -12);
        CHECK.due("asks: from far below", x.asks(2, 1, Integer.MIN_VALUE, Integer.MAX_VALUE), -12);
        CHECK.due("count(2)", x.count(2), 4);
        for (int i = 4; i < 14; i++) {
            x.ask(0, 0, 0, 0, 1, 0);
        }
        CHECK.due("asks: FULL ones are left out", x.asks(2, 1, 1, 2), 0);
    }

    private static void fromSheetsRefused() {
        GiftOffice x = new GiftOffice();
        x.sheet(0, 0, 12);
        CHECK.due("asks(-1, 0, 0, 0)", x.asks(-1, 0, 0, 0), -2);
        CHECK.due("asks(4, 0, 0, 0)", x.asks(4, 0, 0, 0), -2);
        CHECK.due("asks(0, -1, 0, 0)", x.asks(0, -1, 0, 0), -2);
        CHECK.due("asks(0, 3, 0, 0)", x.asks(0, 3, 0, 0), -2);
        CHECK.due("asks(0, 0, 0, -1)", x.asks(0, 0, 0, -1), -2);
        CHECK.due("asks: BAD ahead of -13", x.asks(0, 1, 0, -1), -2);
        CHECK.due("asks: BAD ahead of -11", x.asks(1, 1, 0, -1), -2);
        CHECK.due("asks: other sort", x.asks(0, 1, 0, 1), -13);
        CHECK.due("asks: other sort", x.asks(0, 2, 0, 1), -13);
        CHECK.due("asks: other sort, n 0", x.asks(0, 2, 0, 0), -13);
        CHECK.due("asks: -13 ahead of -12", x.asks(0, 2, 99, 1), -13);
        CHECK.due("asks: missing", x.asks(1, 0, 0, 1), -11);
        CHECK.due("asks: missing, n 0", x.asks(1, 2, 0, 0), -11);
        CHECK.due("count(2)", x.count(2), 0);
    }

    private static void taken() {
        GiftOffice x = new GiftOffice();
        for (int kind = 0; kind < 6; kind++) {
            x.ask(kind, kind + 3, 0, 0, 1, 0);
        }
        // for each KIND, those that it is or stands under
        String[] above = {"0", "01", "02", "023", "024", "015"};
        for (int kind = 0; kind < 6; kind++) {
            for (int k = 0; k < 6; k++) {
                int due = above[kind].indexOf('0' + k) >= 0 ? kind + 3 : -13;
                CHECK.due("taken(" + kind + ", " + k + ")", x.taken(kind, k), due);
            }
        }
        CHECK.due("taken(0, 6)", x.taken(0, 6), -2);
        CHECK.due("taken(0, -1)", x.taken(0, -1), -2);
        CHECK.due("taken: BAD ahead of -11", x.taken(6, 6), -2);
        CHECK.due("taken(6, 0)", x.taken(6, 0), -11);
        CHECK.due("taken(-1, 0)", x.taken(-1, 0), -11);
    }
}
