/** Promises 1 to 6 and 27: a new object, funds, readers, and what is counted. */
public final class FundsTest {
    private static final Check CHECK = new Check();

    public static void main(String[] args) {
        newObject();
        funds();
        gifts();
        readers();
        counts();
        CHECK.end();
    }

    private static void newObject() {
        GiftOffice x = new GiftOffice();
        for (int what = 0; what <= 7; what++) {
            CHECK.due("new: count(" + what + ")", x.count(what), what == 3 ? 1 : 0);
        }
        CHECK.due("new: fundTold(0, 0)", x.fundTold(0, 0), -2);
        CHECK.due("new: readerTold(0, 0)", x.readerTold(0, 0), -2);
        CHECK.due("new: told(0, 0)", x.told(0, 0), -2);
        CHECK.due("new: text()", x.text(), -100);
        for (int sheet = 0; sheet < 4; sheet++) {
            CHECK.due("new: cell", x.cell(sheet, 0, 0), -11);
        }
        CHECK.due("new: force(0)", x.force(0), 0);
        CHECK.due("new: force(1)", x.force(1), -2);
    }

    private static void funds() {
        GiftOffice x = new GiftOffice();
        CHECK.due("fund(-1)", x.fund(-1), -2);
        CHECK.due("fund(64)", x.fund(64), -2);
        CHECK.due("fund(0)", x.fund(0), 0);
        for (int i = 1; i < 5; i++) {
            CHECK.due("fund(63)", x.fund(64 - i), i);
        }
        CHECK.due("fund: a sixth", x.fund(1), -4);
        CHECK.due("fund: BAD ahead of FULL", x.fund(64), -2);
        CHECK.due("count(0)", x.count(0), 5);
        CHECK.due("fundTold(0, 0)", x.fundTold(0, 0), 0);
        CHECK.due("fundTold(4, 0)", x.fundTold(4, 0), 60);
        for (int what = 1; what <= 4; what++) {
            CHECK.due("fundTold: no COINS", x.fundTold(4, what), 0);
        }
        CHECK.due("fundTold(5, 0)", x.fundTold(5, 0), -2);
        CHECK.due("fundTold(-1, 0)", x.fundTold(-1, 0), -2);
        CHECK.due("fundTold(0, 5)", x.fundTold(0, 5), -2);
        CHECK.due("fundTold(0, -1)", x.fundTold(0, -1), -2);
    }

    private static void gifts() {
        GiftOffice x = new GiftOffice();
        CHECK.due("give: no FUND", x.give(0, 1), -2);
        x.fund(1);
        x.fund(2);
        CHECK.due("give(0, 0)", x.give(0, 0), -2);
        CHECK.due("give(0, 1000001)", x.give(0, 1000001), -2);
        CHECK.due("give(0, MAX)", x.give(0, Integer.MAX_VALUE), -2);
        CHECK.due("give(0, -5)", x.give(0, -5), -2);
        CHECK.due("give(-1, 5)", x.give(-1, 5), -2);
        CHECK.due("give(2, 5)", x.give(2, 5), -2);
        CHECK.due("give(0, 1)", x.give(0, 1), 1);
        for (int i = 0; i < 9; i++) {
            CHECK.due("give(0, 1000000)", x.give(0, 1000000), 1000000 * (i + 1) + 1);
        }
        CHECK.due("give: above the most", x.give(0, 1000000), -4);
        CHECK.due("give: nothing changed", x.fundTold(0, 1), 9000001);
        CHECK.due("give: the very most", x.give(0, 999999), 10000000);
        CHECK.due("give: one more", x.give(0, 1), -4);
        CHECK.due("give: BAD ahead of FULL", x.give(0, 0), -2);
        CHECK.due("fundTold(0, 1)", x.fundTold(0, 1), 10000000);
        CHECK.due("fundTold(0, 2)", x.fundTold(0, 2), 10000000);
        CHECK.due("the other FUND has none", x.fundTold(1, 1), 0);
        CHECK.due("give(1, 7)", x.give(1, 7), 7);
    }

    private static void readers() {
        GiftOffice x = new GiftOffice();
        int[][] bad = {{-1, 0, 1}, {64, 0, 1}, {0, -1, 1}, {0, 10, 1}, {0, 0, 0}, {0, 0, 7}};
        for (int[] b : bad) {
            CHECK.due("reader: bad", x.reader(b[0], b[1], b[2]), -2);
        }
        CHECK.due("count(1)", x.count(1), 0);
        CHECK.due("reader(63, 9, 6)", x.reader(63, 9, 6), 0);
        CHECK.due("reader(0, 0, 1)", x.reader(0, 0, 1), 1);
        for (int i = 2; i < 8; i++) {
            CHECK.due("reader(i, i, i / 2 + 1)", x.reader(i, i, i / 2 + 1), i);
        }
        CHECK.due("reader: a ninth", x.reader(1, 1, 1), -4);
        for (int[] b : bad) {
            CHECK.due("reader: BAD ahead of FULL", x.reader(b[0], b[1], b[2]), -2);
        }
        CHECK.due("count(1)", x.count(1), 8);
        CHECK.due("readerTold(0, 0)", x.readerTold(0, 0), 63);
        CHECK.due("readerTold(0, 1)", x.readerTold(0, 1), 9);
        CHECK.due("readerTold(0, 2)", x.readerTold(0, 2), 6);
        CHECK.due("readerTold(6, 0)", x.readerTold(6, 0), 6);
        CHECK.due("readerTold(6, 1)", x.readerTold(6, 1), 6);
        CHECK.due("readerTold(6, 2)", x.readerTold(6, 2), 4);
        CHECK.due("readerTold(6, 3)", x.readerTold(6, 3), 0);
        CHECK.due("readerTold(6, 4)", x.readerTold(6, 4), 0);
        CHECK.due("readerTold(6, 5)", x.readerTold(6, 5), -2);
        CHECK.due("readerTold(6, -1)", x.readerTold(6, -1), -2);
        CHECK.due("readerTold(8, 0)", x.readerTold(8, 0), -2);
        CHECK.due("readerTold(-1, 0)", x.readerTold(-1, 0), -2);
    }

    private static void counts() {
        GiftOffice x = new GiftOffice();
        x.fund(63);
        x.fund(63);
        x.give(0, 5000);
        x.reader(0, 1, 6);
        x.reader(0, 2, 6);
        x.reader(0, 3, 6);
        x.ask(1, 0, 0, 0, 10, 0);
        x.ask(1, 0, 0, 0, 10, 0);
        x.ask(1, 0, 0, 0, 10, 0);
        x.ask(1, 0, 0, 0, 10, 0);
        x.deal();
        x.mark(0, 0, 60);
        x.mark(1, 1, 60);
        x.mark(2, 2, 60);
        x.mark(2, 2, 61);
        x.bar(1, 1);
        x.grant(0, 0, 1, 1, 0);
        x.grant(0, 2, 1, 1, 0);
        x.stop(2);
        Check.text(x, "may 1; pass 1; late 1;");
        x.force(1);
        Check.feed(x, "abc");
        int[] due = {2, 3, 4, 2, 3, 2, 2, 1};
        for (int what = 0; what < due.length; what++) {
            CHECK.due("count(" + what + ")", x.count(what), due[what]);
        }
        CHECK.due("count(8)", x.count(8), -2);
        CHECK.due("count(-1)", x.count(-1), -2);
    }
}
