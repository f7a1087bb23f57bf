/** Turns arguments to such as find something: an ASKING that is there, a READER that was dealt it, a GRANT. */
final class Hints {
    static void use(GiftOffice x, String name, int[] a, Dice dice) {
        int asking = Math.max(1, x.count(2));
        switch (name) {
            case "mark":
                a[1] = dice.from(0, asking - 1);
                a[0] = reader(x, a[1], dice);
                break;
            case "grant":
            case "fit":
                a[0] = dice.from(0, Math.max(0, x.count(0) - 1));
                a[1] = dice.from(0, asking - 1);
                break;
            case "proof":
            case "due":
            case "back":
            case "stop":
                a[0] = granted(x, dice);
                if (name.equals("proof") || name.equals("due")) {
                    a[1] = dice.oneIn(3) ? a[1] : dice.from(0, 150);
                } else if (dice.oneIn(3)) {
                    a[1] = x.told(a[0], 11) + dice.from(0, 1);
                }
                break;
            case "says":
            case "told":
            case "worth":
            case "taken":
                a[0] = dice.from(0, asking - 1);
                break;
            case "choose":
            case "fundTold":
                a[0] = dice.from(0, Math.max(0, x.count(0) - 1));
                break;
            default:
                break;
        }
    }

    private static int reader(GiftOffice x, int asking, Dice dice) {
        int r = dice.from(0, 7);
        for (int i = 0; i < 8 && (x.told(asking, 7) >> r & 1) == 0; i++) {
            r = (r + 1) % 8;
        }
        return r;
    }

    private static int granted(GiftOffice x, Dice dice) {
        int asking = dice.from(0, 13);
        for (int i = 0; i < 14 && (x.told(asking, 12) <= 0 || dice.oneIn(8)); i++) {
            asking = (asking + 1) % 14;
        }
        return asking;
    }
}
