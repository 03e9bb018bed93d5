import java.util.Random;

/** Random TEXTS of either language: most of them good, some of them spoilt. */
final class Texts {
    private static final String[] LAW_WORDS = {"from", "to", "far", "return", "hour", "day", "mood"};
    private static final String[] ORDER_WORDS = {"day", "done", "latest", "at", "purse", "held"};
    private static final String[] SCRAPS = {
        " ", ";", "if", "not", "(", ")", "[", "]", "+", "-", "*", "/", "%", "<", ">", "=", "or", "and", "5", "0", "1001", "1000",
        "times", "times 3", "stops", "stops 5", "costs", "bars", "single", "ride", "to", "far", "day", "x", "A", "\u0000", "\u00e9", "00021", "21"};

    private final Random dice;
    private boolean orders;

    Texts(Random dice) {
        this.dice = dice;
    }

    String text(boolean forOrders) {
        orders = forOrders;
        StringBuilder b = new StringBuilder();
        int clauses = dice.nextInt(12) == 0 ? 10 + dice.nextInt(5) : 1 + dice.nextInt(4);
        int depth = clauses > 6 ? 0 : 1 + dice.nextInt(3);
        for (int i = 0; i < clauses; i++) {
            b.append(i == 0 ? "" : ";").append(blank());
            clause(b, depth);
        }
        if (dice.nextInt(12) == 0) {
            b = nested();
        }
        if (dice.nextInt(15) == 0) {
            b = many();
        }
        for (int n = dice.nextInt(4) == 0 ? 1 + dice.nextInt(2) : 0; n > 0; n--) {
            spoil(b);
        }
        return b.length() > 400 ? b.substring(0, 400) : b.toString();
    }

    private String blank() {
        return dice.nextInt(5) == 0 ? "  " : dice.nextInt(3) == 0 ? " " : "";
    }

    private void spoil(StringBuilder b) {
        int at = dice.nextInt(b.length() + 1);
        String scrap = SCRAPS[dice.nextInt(SCRAPS.length)];
        int kind = dice.nextInt(4);
        if (kind == 0) {
            b.insert(at, scrap);
        } else if (kind == 1) {
            b.setLength(at);
        } else if (kind == 2) {
            b.delete(at, Math.min(b.length(), at + 1 + dice.nextInt(4)));
        } else {
            b.insert(at, " " + scrap + " ");
        }
    }

    /** Brackets and "not" near the limit of eight. */
    private StringBuilder nested() {
        int round = dice.nextInt(10);
        int square = dice.nextInt(10);
        StringBuilder b = new StringBuilder(orders ? "pass if " : dice.nextInt(2) == 0 ? "bars if " : "costs far * 7 if ");
        for (int i = 0; i < round; i++) {
            b.append(dice.nextInt(3) == 0 ? "not not not " : "").append("(");
        }
        b.append("[".repeat(square)).append(orders ? "at" : "far").append("]".repeat(square)).append(" > 2");
        b.append(")".repeat(round));
        if (dice.nextInt(2) == 0) {
            b.append(" or [[[[[[[[1]]]]]]]] = day");
        }
        return b;
    }

    /** PARTS near the limit of fifty. */
    private StringBuilder many() {
        StringBuilder b = new StringBuilder(orders ? "save 1" : "costs 1");
        int parts = 46 + dice.nextInt(6);
        for (int i = 1; i < parts; i++) {
            b.append("+").append(dice.nextInt(3) > 0 ? "1" : orders ? dice.nextInt(2) == 0 ? "at" : "stops 1" : "far");
        }
        b.append(dice.nextInt(2) == 0 ? "" : orders ? " times 2 if 1=1" : " if far=2");
        return b;
    }

    private void clause(StringBuilder b, int depth) {
        if (orders) {
            order(b, depth);
        } else if (dice.nextInt(3) > 0) {
            b.append("costs ");
            sum(b, depth);
        } else {
            b.append("bars ");
        }
        if (dice.nextInt(orders ? 4 : 2) == 0) {
            b.append(" if ");
            test(b, depth);
        }
    }

    private void order(StringBuilder b, int depth) {
        switch (dice.nextInt(6)) {
            case 0:
            case 1:
                b.append("single ");
                station(b, depth);
                b.append(" to ");
                station(b, depth);
                break;
            case 2:
                b.append("return ");
                station(b, depth);
                b.append(" to ");
                station(b, depth);
                break;
            case 3:
                b.append("ride ").append(dice.nextInt(4)).append(" to ");
                station(b, depth);
                break;
            case 4:
                b.append("save ");
                sum(b, depth);
                break;
            default:
                b.append("pass ");
                break;
        }
        if (dice.nextInt(4) == 0) {
            b.append(" times ").append(dice.nextInt(5) == 0 ? dice.nextInt(23) : 1 + dice.nextInt(3));
        }
    }

    /** Mostly one that there is. */
    private void station(StringBuilder b, int depth) {
        int r = dice.nextInt(8);
        if (r < 4) {
            b.append(dice.nextInt(8));
        } else if (r < 6) {
            b.append("at");
        } else if (r == 6) {
            b.append("[at + ").append(dice.nextInt(8)).append("] % 8");
        } else {
            sum(b, depth);
        }
    }

    private void test(StringBuilder b, int depth) {
        int n = dice.nextInt(3) == 0 ? 2 + dice.nextInt(2) : 1;
        for (int i = 0; i < n; i++) {
            b.append(i == 0 ? "" : dice.nextInt(2) == 0 ? " and " : " or ");
            if (dice.nextInt(6) == 0) {
                b.append("not ");
            }
            if (depth > 0 && dice.nextInt(3) == 0) {
                b.append("(");
                test(b, depth - 1);
                b.append(")");
            } else {
                sum(b, depth - 1);
                b.append(blank()).append("<>=".charAt(dice.nextInt(3))).append(blank());
                sum(b, depth - 1);
            }
        }
    }

    private void sum(StringBuilder b, int depth) {
        part(b, depth);
        for (int n = dice.nextInt(3); n > 0 && depth > 0; n--) {
            b.append(blank()).append("+-**//%".charAt(dice.nextInt(7))).append(blank());
            part(b, depth);
        }
    }

    private void part(StringBuilder b, int depth) {
        int r = dice.nextInt(10);
        if (r == 0 && depth > 0) {
            b.append("[");
            sum(b, depth - 1);
            b.append("]");
        } else if (r < 5) {
            String[] words = orders ? ORDER_WORDS : LAW_WORDS;
            b.append(orders && dice.nextInt(6) == 0 ? "stops " + dice.nextInt(6) : words[dice.nextInt(words.length)]);
        } else if (r == 5) {
            b.append(dice.nextInt(1001));
        } else if (r == 6) {
            b.append("1000");
        } else {
            b.append(dice.nextInt(12));
        }
    }
}
