/** Arguments for calls: mostly such as are due, at times such as are just beside it. */
final class Arguments {
    static void fill(String name, int[] a, Dice dice) {
        for (int i = 0; i < a.length; i++) {
            a[i] = dice.from(0, 9);
        }
        switch (name) {
            case "fund": set(a, dice.from(0, 63)); break;
            case "give": set(a, fund(dice), dice.oneIn(8) ? 1000000 : dice.from(1, 9999)); break;
            case "fundTold": set(a, fund(dice), dice.from(0, 4)); break;
            case "reader": set(a, dice.from(0, 63), dice.from(0, 9), dice.from(1, 6)); break;
            case "readerTold": set(a, reader(dice), dice.from(0, 4)); break;
            case "ask": set(a, dice.from(0, 5), dice.from(0, 9), dice.from(0, 9), dice.from(0, 5),
                    dice.from(1, dice.oneIn(2) ? 9999 : 99), dice.from(0, 999)); break;
            case "asks": set(a, dice.from(0, 3), dice.from(0, 2), dice.from(0, 40), dice.from(0, 6)); break;
            case "told": set(a, asking(dice), dice.from(0, 12)); break;
            case "feed": set(a, dice.from(1, 8)); break;
            case "force": set(a, dice.from(0, 5)); break;
            case "says": set(a, asking(dice), dice.from(0, 2), dice.from(0, 999)); break;
            case "bar": case "barred": set(a, reader(dice), asking(dice)); break;
            case "mark": set(a, reader(dice), asking(dice), dice.from(0, 100)); break;
            case "worth": set(a, asking(dice), dice.from(0, 1)); break;
            case "fit": set(a, fund(dice), asking(dice)); break;
            case "choose": set(a, fund(dice)); break;
            case "grant": set(a, fund(dice), asking(dice), dice.from(1, 4), dice.from(1, 100),
                    dice.from(0, 999)); break;
            case "proof": case "due": set(a, asking(dice), dice.from(0, 999)); break;
            case "stop": set(a, asking(dice)); break;
            case "back": set(a, asking(dice), dice.from(1, 300)); break;
            case "count": set(a, dice.from(0, 7)); break;
            case "sheet": set(a, dice.from(0, 3), dice.from(-1, 2), dice.from(0, 40)); break;
            case "cell": set(a, dice.from(0, 3), dice.from(0, 39), cell(dice)); break;
            case "taken": set(a, asking(dice), dice.from(0, 5)); break;
            default: break;
        }
        if (dice.oneIn(10)) {
            a[dice.from(0, a.length - 1)] = beside(dice);
        }
    }

    private static void set(int[] a, int... values) {
        System.arraycopy(values, 0, a, 0, values.length);
    }

    private static int fund(Dice dice) {
        return dice.from(0, 3);
    }

    private static int reader(Dice dice) {
        return dice.from(0, 7);
    }

    private static int asking(Dice dice) {
        return dice.from(0, 13);
    }

    private static int cell(Dice dice) {
        return dice.oneIn(5) ? (int) dice.next() : dice.from(0, 9);
    }

    private static int beside(Dice dice) {
        int[] some = {-1, -2, 1, 0, 5, 6, 7, 8, 10, 13, 14, 40, 41, 63, 64, 99, 100, 101, 999, 1000, 9999, 10000,
            1000000, 1000001, Integer.MAX_VALUE, Integer.MIN_VALUE, Integer.MAX_VALUE - 5, -6, -100};
        return some[dice.from(0, some.length - 1)];
    }
}
