/** The edges of promises 8 and 28 to 30: each sentence that names one, by itself. */
public final class EdgesOfHostTest {
    private static final Check CHECK = new Check();
    private static final Story NEW = new Story(CHECK);
    private static final int BAD = Story.BAD, LEAST = Story.LEAST, MOST = Story.MOST;
    private static final int NOTHING = Story.NOTHING, OUTSIDE = Story.OUTSIDE, OTHER = Story.OTHER, BELOW = Story.BELOW;
    /** A KIND, HOUSE, second, THEME, SUM and DAY that are taken, in each sort. */
    private static final int[] PLAIN = {1, 2, 3, 4, 100, 6};

    public static void main(String[] args) {
        allMissing();
        sheetNumbers();
        sheetAheadOfOthers();
        sheetMissingAgain();
        sheetAllNought();
        sheetOfNone();
        cellPlaces();
        cellRefused();
        cellOfEachSort();
        asksBad();
        asksMissing();
        asksOtherSort();
        asksOfNone();
        asksPlaces();
        asksLeavesOut();
        asksFull();
        asksUnderTheRule();
        taken();
        takenRefused();
        CHECK.end();
    }

    /** A SHEET with PLAIN ASKINGS on it from a place on. */
    private static Story sheet(int sheet, int sort, int size, int from, int askings) {
        Story all = NEW.then("sheet " + sheet + " " + sort + " " + size);
        for (int i = 0; i < askings * PLAIN.length; i++) {
            all = all.then("cell " + sheet + " " + (from + i) + " " + PLAIN[i % PLAIN.length]);
        }
        return all;
    }

    /** 5: SHEETS 0 .. 3, missing as all are at first. */
    private static void allMissing() {
        for (int sheet = 0; sheet < 4; sheet++) {
            NEW.refuses("cell " + sheet + " 0 0", NOTHING);
            for (int sort = 0; sort < 3; sort++) {
                NEW.refuses("asks " + sheet + " " + sort + " 0 0", NOTHING);
                NEW.refuses("asks " + sheet + " " + sort + " 0 1", NOTHING);
            }
            NEW.due("sheet " + sheet + " -1 0", 1);
            // each is one of its own
            for (int other = 0; other < 4; other++) {
                Story one = NEW.then("sheet " + sheet + " 0 1");
                one.due("cell " + other + " 0 0", other == sheet ? 1 : NOTHING);
            }
        }
    }

    /** 28: BAD: no such SHEET, sort; n above 40; -14. */
    private static void sheetNumbers() {
        for (int sort = 0; sort < 3; sort++) {
            for (int sheet = 0; sheet < 4; sheet++) {
                NEW.due("sheet " + sheet + " " + sort + " 0", 1);
                NEW.due("sheet " + sheet + " " + sort + " 40", 1);
            }
            for (int n : new int[] {41, 100, MOST}) {
                NEW.refuses("sheet 0 " + sort + " " + n, BAD);
                sheet(0, sort, 12, 0, 1).refuses("sheet 0 " + sort + " " + n, BAD);
            }
            for (int n : new int[] {-1, -40, LEAST}) {
                NEW.refuses("sheet 0 " + sort + " " + n, BELOW);
                sheet(0, sort, 12, 0, 1).refuses("sheet 0 " + sort + " " + n, BELOW);
            }
        }
        for (int sheet : new int[] {LEAST, -1, 4, MOST}) {
            for (int sort = -1; sort < 3; sort++) {
                NEW.refuses("sheet " + sheet + " " + sort + " 1", BAD);
            }
        }
        for (int sort : new int[] {LEAST, -2, 3, MOST}) {
            NEW.refuses("sheet 0 " + sort + " 1", BAD);
            sheet(0, 0, 12, 0, 1).refuses("sheet 0 " + sort + " 1", BAD);
        }
    }

    /** 28: BAD is told ahead of -14. */
    private static void sheetAheadOfOthers() {
        NEW.refuses("sheet 4 0 -1", BAD);
        NEW.refuses("sheet -1 0 -1", BAD);
        NEW.refuses("sheet 0 3 -1", BAD);
        NEW.refuses("sheet 0 -2 -1", BAD);
        NEW.refuses("sheet 4 -1 -1", BAD);
        NEW.refuses("sheet 4 3 41", BAD);
    }

    /** 28: or missing (sort -1: n does not matter). */
    private static void sheetMissingAgain() {
        for (int n : new int[] {LEAST, -1, 0, 40, 41, MOST}) {
            Story one = sheet(1, 2, 12, 0, 1);
            NEW.due("sheet 1 -1 " + n, 1);
            one.due("sheet 1 -1 " + n, 1);
            one.then("sheet 1 -1 " + n).refuses("cell 1 0 1", NOTHING);
            one.then("sheet 1 -1 " + n).refuses("asks 1 2 0 1", NOTHING);
            one.then("sheet 1 -1 " + n).due("sheet 1 -1 0", 1);
        }
        // of the others nothing is gone, and what was there does not come again
        Story two = sheet(1, 2, 12, 0, 1).then("sheet 2 2 6", "sheet 2 -1 0");
        two.due("asks 1 2 0 1", 1);
        sheet(1, 2, 12, 0, 1).then("sheet 1 -1 0", "sheet 1 2 12").due("asks 1 2 0 1", 0);
    }

    /** 28: a row of n of a sort, all 0. */
    private static void sheetAllNought() {
        for (int sort = 0; sort < 3; sort++) {
            // of all that is 0 only a SUM may not be
            Story one = NEW.then("sheet 0 " + sort + " 40");
            one.due("asks 0 " + sort + " 0 6", 0);
            for (int from : new int[] {0, 6, 34}) {
                Story sum = one.then("cell 0 " + (from + 4) + " 7");
                sum.due("asks 0 " + sort + " " + from + " 1", 1);
                int[] due = {0, 0, -1, 0, 7, 0};
                for (int what = 0; what < due.length; what++) {
                    sum.then("asks 0 " + sort + " " + from + " 1").due("told 0 " + what, due[what]);
                }
            }
            // made anew it is all 0 again, also of another size or sort
            for (int again = 0; again < 3; again++) {
                Story anew = sheet(0, sort, 40, 1, 6).then("sheet 0 " + again + " 38");
                anew.due("asks 0 " + again + " 1 6", 0);
                anew.then("cell 0 5 9", "asks 0 " + again + " 1 1").due("told 0 3", 0);
            }
        }
        Story first = NEW.then("sheet 0 2 6", "cell 0 0 3", "cell 0 5 9", "sheet 0 2 6", "cell 0 4 7", "asks 0 2 0 1");
        first.due("told 0 0", 0);
        first.due("told 0 5", 0);
        // shorter, then longer
        sheet(0, 2, 40, 34, 1).then("sheet 0 2 6", "sheet 0 2 40").due("asks 0 2 34 1", 0);
    }

    /** 28: n 0: a row that is there, with no place. */
    private static void sheetOfNone() {
        for (int sort = 0; sort < 3; sort++) {
            Story none = NEW.then("sheet 0 " + sort + " 0");
            none.refuses("cell 0 0 1", OUTSIDE);
            none.due("asks 0 " + sort + " 0 0", 0);
            none.refuses("asks 0 " + sort + " 0 1", OUTSIDE);
            none.refuses("asks 0 " + (sort + 1) % 3 + " 0 0", OTHER);
        }
    }

    /** 29: -12. */
    private static void cellPlaces() {
        for (int size : new int[] {1, 2, 12, 39, 40}) {
            Story one = NEW.then("sheet 3 1 " + size);
            one.due("cell 3 0 5", 1);
            one.due("cell 3 " + (size - 1) + " 5", 1);
            for (int i : new int[] {LEAST, -1, size, 40, MOST}) {
                one.refuses("cell 3 " + i + " 5", OUTSIDE);
            }
        }
        // a row that was longer
        NEW.then("sheet 3 1 40", "sheet 3 1 12").refuses("cell 3 12 5", OUTSIDE);
    }

    /** 29: BAD: no such SHEET; -11; -12: in this order. */
    private static void cellRefused() {
        for (int sheet : new int[] {LEAST, -1, 4, MOST}) {
            NEW.refuses("cell " + sheet + " 0 5", BAD);
            NEW.refuses("cell " + sheet + " -1 5", BAD);
            NEW.then("sheet 3 0 12").refuses("cell " + sheet + " 40 5", BAD);
        }
        for (int i : new int[] {LEAST, -1, 0, 40, MOST}) {
            NEW.refuses("cell 0 " + i + " 5", NOTHING);
            NEW.then("sheet 0 0 40", "sheet 0 -1 0").refuses("cell 0 " + i + " 5", NOTHING);
        }
    }

    /** 5: bytes, shorts, ints (with their sign); 29: of bytes, shorts its lowest 8, 16 bits. */
    private static void cellOfEachSort() {
        int[] values = {0, 1, 5, 9, 127, 128, 129, 255, 256, 257, 261, 999, 1000, 9999, 10000, 32767, 32768, 65535, 65536,
            65537, 65541, 16777217, -1, -2, -128, -129, -255, -256, -32768, -65531, -16777211, LEAST, LEAST + 5, MOST};
        for (int value : values) {
            for (int sort = 0; sort < 3; sort++) {
                int kept = sort == 0 ? (byte) value : sort == 1 ? (short) value : value;
                Story one = NEW.then("rule:may 1;pass 1;late 1;").then("sheet 0 " + sort + " 6", "cell 0 4 " + value);
                boolean sum = kept >= 1 && kept <= 9999;
                one.due("asks 0 " + sort + " 0 1", sum ? 1 : 0);
                one.then("asks 0 " + sort + " 0 1").due("told 0 4", sum ? kept : BAD);
                Story day = one.then("cell 0 4 1", "cell 0 5 " + value);
                day.due("asks 0 " + sort + " 0 1", kept >= 0 && kept <= 999 ? 1 : 0);
            }
        }
        // the last value that is put stands
        NEW.then("sheet 0 0 6", "cell 0 4 3", "cell 0 4 4", "asks 0 0 0 1").due("told 0 4", 4);
        NEW.then("sheet 0 0 6", "cell 0 4 3", "cell 0 4 256").due("asks 0 0 0 1", 0);
    }

    /** 8: BAD: no such SHEET, sort, n below 0: ahead of -13, -11 and -12. */
    private static void asksBad() {
        Story[] states = {NEW, sheet(0, 0, 12, 0, 2), NEW.then("sheet 0 1 6")};
        for (Story state : states) {
            for (int none : new int[] {LEAST, -1, 4, MOST}) {
                state.refuses("asks " + none + " 0 0 1", BAD);
                state.refuses("asks " + none + " 0 -1 0", BAD);
            }
            for (int none : new int[] {LEAST, -2, -1, 3, MOST}) {
                state.refuses("asks 0 " + none + " 0 1", BAD);
                state.refuses("asks 0 " + none + " 99 1", BAD);
                state.refuses("asks 0 " + none + " 0 0", BAD);
            }
            for (int n : new int[] {LEAST, -6, -1}) {
                state.refuses("asks 0 0 0 " + n, BAD);
                state.refuses("asks 0 0 -1 " + n, BAD);
                state.refuses("asks 0 2 99 " + n, BAD);
            }
        }
    }

    /** 8: -11 (also with n 0): wherever from is. */
    private static void asksMissing() {
        for (int sort = 0; sort < 3; sort++) {
            for (int from : new int[] {LEAST, -1, 0, 40, MOST}) {
                for (int n : new int[] {0, 1, 7, MOST}) {
                    NEW.refuses("asks 2 " + sort + " " + from + " " + n, NOTHING);
                }
            }
        }
    }

    /** 8: -13, ahead of -12 and with n 0. */
    private static void asksOtherSort() {
        for (int sort = 0; sort < 3; sort++) {
            Story one = sheet(2, sort, 12, 0, 2);
            for (int taken = 0; taken < 3; taken++) {
                if (taken == sort) {
                    one.due("asks 2 " + taken + " 0 2", 2);
                } else {
                    one.refuses("asks 2 " + taken + " 0 2", OTHER);
                    one.refuses("asks 2 " + taken + " 0 0", OTHER);
                    one.refuses("asks 2 " + taken + " -1 1", OTHER);
                    one.refuses("asks 2 " + taken + " 12 1", OTHER);
                    // it is what it was made last
                    one.then("sheet 2 " + taken + " 6").due("asks 2 " + taken + " 0 1", 0);
                    one.then("sheet 2 " + taken + " 6").refuses("asks 2 " + sort + " 0 1", OTHER);
                }
            }
        }
    }

    /** 8: n of them, with n 0: none is asked for. */
    private static void asksOfNone() {
        Story one = sheet(0, 0, 12, 0, 2);
        for (int from : new int[] {0, 6, 12}) {
            one.due("asks 0 0 " + from + " 0", 0);
            one.then("asks 0 0 " + from + " 0").due("count 2", 0);
        }
    }

    /** 8: six by six from one on; -12: what stood ahead came. */
    private static void asksPlaces() {
        for (int size : new int[] {6, 7, 11, 12, 13, 40}) {
            for (int from = 0; from <= 6; from++) {
                int room = from + 6 <= size ? (size - from) / 6 : 0;
                Story one = sheet(0, 1, size, from, room);
                one.due("asks 0 1 " + from + " " + room, room);
                one.then("asks 0 1 " + from + " " + room).due("count 2", room);
                one.due("asks 0 1 " + from + " " + (room + 1), OUTSIDE);
                one.then("?asks 0 1 " + from + " " + (room + 1)).due("count 2", room);
                one.due("asks 0 1 " + from + " " + MOST, OUTSIDE);
                one.then("?asks 0 1 " + from + " " + MOST).due("count 2", room);
            }
        }
        Story one = sheet(0, 1, 40, 34, 1);
        one.due("asks 0 1 34 1", 1);
        for (int from : new int[] {LEAST, LEAST + 34, -6, -1, 35, 39, 40, 41, MOST - 5, MOST}) {
            one.refuses("asks 0 1 " + from + " 1", OUTSIDE);
            one.refuses("asks 0 1 " + from + " 2", OUTSIDE);
            one.refuses("asks 0 1 " + from + " " + MOST, OUTSIDE);
        }
        // the first that came is told, as ask() would have it
        Story came = sheet(0, 1, 40, 1, 2).then("cell 0 7 3", "asks 0 1 1 2");
        int[][] due = {{1, 2, -1, 4, 100, 6}, {3, 2, 3, 4, 100, 6}};
        for (int asking = 0; asking < 2; asking++) {
            for (int what = 0; what < PLAIN.length; what++) {
                came.due("told " + asking + " " + what, due[asking][what]);
            }
        }
    }

    /** 8: one that ask() refuses is left out: its numbers just beside, for each of them. */
    private static void asksLeavesOut() {
        int[] first = {0, 0, 0, 0, 1, 0};
        int[] last = {5, 9, 9, 5, 4999, 999};
        for (int at = 0; at < PLAIN.length; at++) {
            for (int value : new int[] {first[at] - 1, last[at] + 1}) {
                // the one in the middle is refused, and the one behind it comes
                Story three = sheet(0, 2, 18, 0, 3).then("cell 0 6 3").then("cell 0 " + (6 + at) + " " + value,
                        "cell 0 12 2");
                three.due("asks 0 2 0 3", 2);
                three.then("asks 0 2 0 3").due("count 2", 2);
                three.then("asks 0 2 0 3").due("told 1 0", 2);
                three.due("asks 0 2 6 1", 0);
                three.refuses("asks 0 2 6 1", 0);
                three.due("asks 0 2 6 3", OUTSIDE);
                three.then("?asks 0 2 6 3").due("count 2", 1);
            }
            for (int value : new int[] {first[at], last[at]}) {
                Story three = sheet(0, 2, 18, 0, 3).then("cell 0 6 3").then("cell 0 " + (6 + at) + " " + value);
                three.due("asks 0 2 0 3", 3);
            }
        }
    }

    /** 8: also one for which there is no room. */
    private static void asksFull() {
        Story twelve = sheet(0, 0, 40, 0, 6).times(2, "asks 0 0 0 6");
        twelve.due("asks 0 0 0 2", 2);
        twelve.due("asks 0 0 0 6", 2);
        twelve.then("asks 0 0 0 6").due("count 2", 14);
        twelve.due("asks 0 0 0 7", OUTSIDE);
        twelve.then("?asks 0 0 0 7").due("count 2", 14);
        Story full = twelve.then("asks 0 0 0 2");
        full.refuses("asks 0 0 0 6", 0);
        full.refuses("asks 0 0 0 0", 0);
        full.refuses("asks 0 0 0 7", OUTSIDE);
        full.refuses("asks 0 1 0 7", OTHER);
    }

    /** 8: as of ask(): under THE RULE. */
    private static void asksUnderTheRule() {
        Story two = sheet(0, 1, 12, 0, 2).then("cell 0 10 101");
        two.then("rule:may sum = 101;pass 1;late 77;").due("asks 0 1 0 2", 1);
        two.then("rule:may sum = 101;pass 1;late 77;", "asks 0 1 0 2").due("told 0 4", 101);
        two.then("rule:may sum = 101;pass 1;late 77;", "asks 0 1 0 2", "force 0").due("says 0 2 0", 77);
        two.then("rule:may 0;pass 1;late 77;").refuses("asks 0 1 0 2", 0);
        two.then("cell 0 4 4999", "cell 0 10 5000").due("asks 0 1 0 2", 1);
    }

    /** 30: An ASKING taken for one of KIND k, or one under that one (also by others between): its HOUSE. */
    private static void taken() {
        int[] under = {-1, 0, 0, 2, 2, 1};
        for (int kind = 0; kind < 6; kind++) {
            for (int house : new int[] {0, 9}) {
                Story one = NEW.then("ask 0 5 5 0 1 0", "ask " + kind + " " + house + " 5 0 1 0");
                for (int k = 0; k < 6; k++) {
                    boolean is = k == kind;
                    for (int above = under[kind]; above >= 0; above = under[above]) {
                        is = is || k == above;
                    }
                    if (is) {
                        one.due("taken 1 " + k, house);
                    } else {
                        one.refuses("taken 1 " + k, OTHER);
                    }
                }
            }
        }
    }

    /** 30: BAD: k; -11: no such ASKING; -13: in this order. */
    private static void takenRefused() {
        Story[] states = {NEW, NEW.then("ask 0 5 0 0 1 0")};
        for (Story state : states) {
            for (int k : new int[] {LEAST, -1, 6, MOST}) {
                for (int asking : new int[] {LEAST, -1, 0, 1, 14, MOST}) {
                    state.refuses("taken " + asking + " " + k, BAD);
                }
            }
            for (int asking : new int[] {LEAST, -1, 1, 14, MOST}) {
                for (int k = 0; k < 6; k++) {
                    state.refuses("taken " + asking + " " + k, NOTHING);
                }
            }
        }
        NEW.refuses("taken 0 0", NOTHING);
    }
}
