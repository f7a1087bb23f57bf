/** Promises 14 to 19: bars, deals, places, marks and worth. */
public final class ReadersTest {
    private static final Check CHECK = new Check();

    public static void main(String[] args) {
        bars();
        deals();
        dealsByLoad();
        places();
        marks();
        marksRefused();
        worths();
        CHECK.end();
    }

    private static void bars() {
        GiftOffice x = new GiftOffice();
        CHECK.due("bar: none such", x.bar(0, 0), -2);
        x.reader(1, 4, 6);
        x.reader(1, 5, 6);
        x.ask(0, 4, 5, 0, 1, 0);
        x.ask(3, 4, 5, 0, 1, 0);
        x.ask(3, 6, 6, 0, 1, 0);
        CHECK.due("barred: HOUSE", x.barred(0, 0), 1);
        CHECK.due("barred: a second HOUSE does not matter", x.barred(1, 0), 0);
        CHECK.due("barred: HOUSE of a JOINT", x.barred(0, 1), 1);
        CHECK.due("barred: second HOUSE of a JOINT", x.barred(1, 1), 1);
        CHECK.due("barred: no", x.barred(0, 2), 0);
        CHECK.due("bar", x.bar(0, 2), 1);
        CHECK.due("bar: told", x.bar(0, 2), 0);
        CHECK.due("barred: told", x.barred(0, 2), 1);
        CHECK.due("barred: another READER", x.barred(1, 2), 0);
        CHECK.due("bar: BARRED by HOUSE, but not told", x.bar(0, 0), 1);
        CHECK.due("bar: now told", x.bar(0, 0), 0);
        CHECK.due("bar(2, 0)", x.bar(2, 0), -2);
        CHECK.due("bar(-1, 0)", x.bar(-1, 0), -2);
        CHECK.due("bar(0, 3)", x.bar(0, 3), -2);
        CHECK.due("bar(0, -1)", x.bar(0, -1), -2);
        CHECK.due("barred(2, 0)", x.barred(2, 0), -2);
        CHECK.due("barred(-1, 0)", x.barred(-1, 0), -2);
        CHECK.due("barred(0, 3)", x.barred(0, 3), -2);
        CHECK.due("barred(0, -1)", x.barred(0, -1), -2);
    }

    private static void deals() {
        GiftOffice x = new GiftOffice();
        CHECK.due("deal: nothing there", x.deal(), 0);
        x.ask(1, 9, 0, 3, 1, 0);
        CHECK.due("deal: no READER", x.deal(), 0);
        x.reader(0, 0, 6);
        x.reader(8, 9, 6);
        x.reader(8, 1, 6);
        x.reader(8, 2, 6);
        x.ask(2, 8, 0, 3, 1, 0);
        x.ask(0, 8, 0, 3, 1, 0);
        CHECK.due("deal: three", x.deal(), 3);
        CHECK.due("the THEME ahead, not the one of its HOUSE", x.told(0, 7), 4);
        CHECK.due("all that have the THEME", x.told(1, 7), 14);
        CHECK.due("those that read fewer, then by number", x.told(2, 7), 2 | 8);
        CHECK.due("readerTold(0, 3)", x.readerTold(0, 3), 0);
        CHECK.due("readerTold(1, 3)", x.readerTold(1, 3), 2);
        CHECK.due("readerTold(2, 3)", x.readerTold(2, 3), 2);
        CHECK.due("readerTold(3, 3)", x.readerTold(3, 3), 2);
        CHECK.due("deal: all have READERS", x.deal(), 0);
        x.ask(3, 0, 9, 0, 1, 0);
        x.ask(0, 8, 0, 5, 1, 0);
        CHECK.due("deal: a JOINT finds only two", x.deal(), 1);
        CHECK.due("none for the JOINT", x.told(3, 7), 0);
        CHECK.due("of like THEMES those that read fewer", x.told(4, 7), 1 | 2);
        x.bar(1, 4);
        CHECK.due("what it reads counts BARRED ones too", x.readerTold(1, 3), 3);
        CHECK.due("READERS that were dealt it stay", x.told(4, 7), 3);
        CHECK.due("deal: it has READERS", x.deal(), 0);
        x.reader(0, 5, 1);
        CHECK.due("deal: the JOINT now", x.deal(), 1);
        CHECK.due("READERS of the JOINT", x.told(3, 7), 4 | 8 | 16);
    }

    private static void dealsByLoad() {
        GiftOffice x = new GiftOffice();
        x.reader(1, 0, 1);
        x.reader(0, 1, 3);
        for (int i = 0; i < 6; i++) {
            x.ask(1, 9, 0, 0, 1, 0);
        }
        CHECK.due("deal: LOADS", x.deal(), 4);
        int[] due = {1, 2, 2, 2, 0, 0};
        for (int i = 0; i < due.length; i++) {
            CHECK.due("told(" + i + ", 7)", x.told(i, 7), due[i]);
        }
        CHECK.due("readerTold(0, 3)", x.readerTold(0, 3), 1);
        CHECK.due("readerTold(1, 3)", x.readerTold(1, 3), 3);
        GiftOffice y = new GiftOffice();
        y.reader(0, 0, 6);
        y.ask(0, 9, 0, 0, 1, 0);
        y.ask(1, 9, 0, 0, 1, 0);
        CHECK.due("deal: the first needs two, the second one", y.deal(), 1);
        CHECK.due("nothing was taken for the first", y.told(0, 7), 0);
        CHECK.due("readerTold(0, 3)", y.readerTold(0, 3), 1);
    }

    private static void places() {
        GiftOffice x = new GiftOffice();
        CHECK.due("places: nothing there", x.places(), 0);
        x.reader(0, 0, 1);
        CHECK.due("places: no ASKING", x.places(), 0);
        x.reader(0, 1, 1);
        x.reader(0, 2, 1);
        x.ask(1, 9, 0, 0, 1, 0);
        x.ask(1, 1, 0, 0, 1, 0);
        x.ask(1, 9, 0, 0, 1, 0);
        x.bar(2, 1);
        CHECK.due("places", x.places(), 3);
        x.bar(1, 2);
        x.bar(2, 2);
        CHECK.due("places: two that only one can read", x.places(), 2);
        x.deal();
        CHECK.due("places: whatever was dealt", x.places(), 2);
        x.ask(2, 9, 0, 0, 1, 0);
        CHECK.due("places: all LOADS", x.places(), 3);
        x.reader(0, 3, 6);
        CHECK.due("places: one more for each ASKING, and two for the LARGE one", x.places(), 6);
        GiftOffice y = new GiftOffice();
        for (int i = 0; i < 8; i++) {
            y.reader(0, 0, 6);
        }
        for (int i = 0; i < 14; i++) {
            y.ask(2, 1, 0, 0, 1, 0);
        }
        CHECK.due("places: all NEEDS", y.places(), 42);
        chain();
        GiftOffice z = new GiftOffice();
        z.reader(0, 0, 6);
        z.ask(0, 0, 0, 0, 1, 0);
        CHECK.due("places: the only one is BARRED", z.places(), 0);
        z.ask(3, 1, 0, 0, 1, 0);
        CHECK.due("places: from a JOINT too", z.places(), 0);
        z.ask(0, 1, 0, 0, 1, 0);
        CHECK.due("places: no pair twice", z.places(), 1);
    }

    /** Each READER but the last can be had only by moving all pairs ahead of it by one. */
    private static void chain() {
        GiftOffice x = new GiftOffice();
        for (int r = 0; r < 8; r++) {
            x.reader(0, 0, 1);
        }
        for (int i = 0; i < 8; i++) {
            x.ask(1, 1, 0, 0, 1, 0);
        }
        for (int i = 0; i < 8; i++) {
            for (int r = 0; r < 8; r++) {
                boolean open = i < 7 ? r == i || r == i + 1 : r == 0;
                if (!open) {
                    x.bar(r, i);
                }
            }
        }
        CHECK.due("places: a chain", x.places(), 8);
        x.bar(7, 6);
        CHECK.due("places: a chain with no end", x.places(), 7);
    }

    private static void marks() {
        GiftOffice x = new GiftOffice();
        x.reader(0, 0, 6);
        x.reader(0, 1, 6);
        x.reader(0, 2, 6);
        x.ask(2, 9, 0, 0, 1, 0);
        x.ask(1, 9, 0, 0, 1, 0);
        x.deal();
        CHECK.due("mark(0, 0, 0)", x.mark(0, 0, 0), 1);
        CHECK.due("mark(1, 0, 100)", x.mark(1, 0, 100), 2);
        CHECK.due("mark: in place of one", x.mark(1, 0, 50), 2);
        CHECK.due("mark(0, 1, 10)", x.mark(0, 1, 10), 1);
        CHECK.due("mark(2, 0, 70)", x.mark(2, 0, 70), 3);
        CHECK.due("readerTold(0, 4)", x.readerTold(0, 4), 2);
        CHECK.due("readerTold(1, 4)", x.readerTold(1, 4), 1);
        CHECK.due("told(0, 8)", x.told(0, 8), 3);
        CHECK.due("count(5)", x.count(5), 4);
        x.bar(0, 0);
        CHECK.due("told(0, 8): BARRED later", x.told(0, 8), 2);
        CHECK.due("readerTold(0, 4): BARRED later", x.readerTold(0, 4), 1);
        CHECK.due("count(5): BARRED later", x.count(5), 3);
        CHECK.due("mark: BARRED later", x.mark(0, 0, 5), -3);
        CHECK.due("mark: what counts", x.mark(2, 0, 71), 2);
        GiftOffice y = new GiftOffice();
        for (int r = 0; r < 8; r++) {
            y.reader(r == 7 ? 1 : 0, 0, 6);
        }
        y.ask(1, 9, 0, 0, 1, 0);
        y.deal();
        CHECK.due("mark: the last READER", y.mark(7, 0, 33), 1);
        CHECK.due("worth(0, 0)", y.worth(0, 0), 33);
        CHECK.due("readerTold(7, 4)", y.readerTold(7, 4), 1);
        CHECK.due("readerTold(7, 3)", y.readerTold(7, 3), 1);
    }

    private static void marksRefused() {
        GiftOffice x = new GiftOffice();
        x.reader(0, 0, 6);
        x.reader(0, 1, 6);
        x.ask(1, 9, 0, 0, 1, 0);
        CHECK.due("mark: not dealt yet", x.mark(0, 0, 5), -3);
        x.deal();
        CHECK.due("mark: dealt to another one", x.mark(1, 0, 5), -3);
        CHECK.due("mark(0, 0, -1)", x.mark(0, 0, -1), -2);
        CHECK.due("mark(0, 0, 101)", x.mark(0, 0, 101), -2);
        CHECK.due("mark: BAD ahead of STATE", x.mark(1, 0, 101), -2);
        CHECK.due("mark(2, 0, 5)", x.mark(2, 0, 5), -2);
        CHECK.due("mark(-1, 0, 5)", x.mark(-1, 0, 5), -2);
        CHECK.due("mark(0, 1, 5)", x.mark(0, 1, 5), -2);
        CHECK.due("mark(0, -1, 5)", x.mark(0, -1, 5), -2);
        CHECK.due("count(5)", x.count(5), 0);
    }

    private static void worth(GiftOffice x, int asking, long above, long below) {
        CHECK.due("worth(" + asking + ", 0)", x.worth(asking, 0), above);
        CHECK.due("worth(" + asking + ", 1)", x.worth(asking, 1), below);
    }

    private static void worths() {
        GiftOffice x = new GiftOffice();
        x.reader(0, 0, 6);
        x.reader(0, 1, 6);
        x.reader(0, 2, 6);
        for (int i = 0; i < 3; i++) {
            x.ask(2, 9, 0, 0, 1, 0);
        }
        x.deal();
        worth(x, 0, GiftOffice.NO, GiftOffice.NO);
        x.mark(0, 0, 0);
        worth(x, 0, 0, 1);
        worth(x, 1, GiftOffice.NO, GiftOffice.NO);
        x.mark(0, 0, 100);
        worth(x, 0, 100, 1);
        x.mark(0, 1, 0);
        x.mark(0, 2, 1);
        // reader 0 is at 101/3 as all are
        worth(x, 0, 100, 1);
        worth(x, 1, 0, 1);
        x.mark(1, 1, 40);
        // M = 141/4: 1 has 0 - 101/3 + 141/4 and 141/4
        worth(x, 0, 1219, 12);
        worth(x, 1, 221, 12);
        worth(x, 2, 31, 12);
        x.mark(2, 2, 100);
        x.mark(2, 1, 90);
        // M = 331/6: 1 has -101/3, 0, -5; 2 has 1 - 101/3, 5, each with M
        worth(x, 0, 243, 2);
        worth(x, 1, 761, 18);
        worth(x, 2, 124, 3);
        x.bar(2, 1);
        // M = 241/5: 1 has -101/3 and 0, 2 has 1 - 101/3 and 0
        worth(x, 1, 941, 30);
        worth(x, 2, 478, 15);
        CHECK.due("worth(0, 2)", x.worth(0, 2), GiftOffice.NO);
        CHECK.due("worth(0, -1)", x.worth(0, -1), GiftOffice.NO);
        CHECK.due("worth(3, 0)", x.worth(3, 0), GiftOffice.NO);
        CHECK.due("worth(-1, 0)", x.worth(-1, 0), GiftOffice.NO);
        x.bar(0, 0);
        worth(x, 0, GiftOffice.NO, GiftOffice.NO);
    }
}
