/** Makes texts of curves and formulas, some of them with a fault. */
final class Texts {
    private Texts() {
    }

    static String curve(Dice dice) {
        StringBuilder text = new StringBuilder();
        int frame = dice.from(0, 6);
        int keys = dice.once(4) ? dice.from(22, 26) : dice.from(1, 12);
        for (int i = 0; i < keys; i++) {
            text.append(i == 0 ? "" : ",").append(frame).append(":").append(dice.once(3) ? "-" : "");
            text.append(keys > 12 ? dice.below(10) : dice.below(1000));
            text.append(keys > 12 || dice.once(3) ? "" : "TLACMH".charAt(dice.below(6)));
            frame += keys > 12 ? dice.from(1, 9) : dice.once(60) ? dice.from(0, 1) : dice.from(1, 40);
        }
        text.append(";");
        return marred(dice, text);
    }

    static String formula(Dice dice) {
        StringBuilder text = new StringBuilder();
        sum(dice, text, dice.once(3) ? dice.from(6, 9) : dice.from(0, 3));
        return marred(dice, text);
    }

    private static void sum(Dice dice, StringBuilder text, int levels) {
        product(dice, text, levels);
        while (dice.once(3) && text.length() < 100) {
            text.append(dice.once(2) ? "+" : "-");
            product(dice, text, dice.from(0, Math.max(0, levels)));
        }
    }

    private static void product(Dice dice, StringBuilder text, int levels) {
        factor(dice, text, levels);
        while (dice.once(4) && text.length() < 100) {
            text.append("*");
            factor(dice, text, dice.from(0, Math.max(0, levels)));
        }
    }

    private static void factor(Dice dice, StringBuilder text, int levels) {
        if (levels <= 0) {
            if (dice.once(2)) {
                text.append(dice.once(2) ? dice.below(1000) : dice.below(4));
            } else {
                text.append("abcd".charAt(dice.of(0, 0, 0, 1, 1, 2, 3)));
                if (dice.once(3)) {
                    text.append("@").append(dice.of(dice.below(30), dice.below(1000)));
                }
            }
            return;
        }
        switch (dice.below(4)) {
            case 0:
                text.append("-");
                factor(dice, text, levels - 1);
                break;
            case 1:
                text.append("(");
                sum(dice, text, levels - 1);
                text.append(")");
                break;
            default:
                text.append(dice.once(2) ? "min(" : "max(");
                sum(dice, text, dice.once(2) ? levels - 1 : 0);
                text.append(",");
                sum(dice, text, dice.once(2) ? levels - 1 : 0);
                text.append(")");
        }
    }

    /** At times a letter is lost, added or changed, or the end is cut off. */
    private static String marred(Dice dice, StringBuilder text) {
        if (dice.once(2)) {
            int place = dice.below(text.length());
            char letter = "0123456789abcdm@()+-*,:;TLACMHinx e".charAt(dice.below(35));
            switch (dice.below(5)) {
                case 0:
                    text.deleteCharAt(place);
                    break;
                case 1:
                    text.insert(place, letter);
                    break;
                case 2:
                    text.setCharAt(place, letter);
                    break;
                case 3:
                    text.setLength(place);
                    break;
                default:
                    text.append(letter);
            }
        }
        return text.length() > 125 ? text.substring(0, 125) : text.toString();
    }
}
