import java.util.Random;

/** Random TEXTS: mostly whole ones, with a hurt one now and then. */
final class Texts {
    private static final String[] WORDS = {"catches", "paints", "place", "kind", "paint", "at", "child", "luck", "run",
        "from", "cut", "add", "year", "round", "of", "kinds", "if", "then", "else", "end", "or", "and", "not", "count",
        "stride", "who", "<=", ">=", "<", ">", "=", "#", "+", "-", "*", "/", "(", ")", ";", "0", "7", "29", "30", "61",
        "9999", "10000", "99999999999999999999", "Year", "foo", "!", "\t", "\u00e9", "\n", " "};
    private final Random random;

    Texts(Random random) {
        this.random = random;
    }

    private String any(String... of) {
        return of[random.nextInt(of.length)];
    }

    private int below(int n) {
        return random.nextInt(n);
    }

    String text() {
        for (int tries = 0; tries < 100; tries++) {
            StringBuilder out = new StringBuilder();
            boolean catches = below(4) == 0;
            boolean paints = below(4) == 0;
            int clauses = below(12) == 0 ? 22 + below(5) : below(7);
            for (int i = 0; i < clauses; i++) {
                if (!catches && below(2) == 0) {
                    out.append("catches ").append(sum(3, true));
                    catches = below(12) != 0;
                } else if (!paints && below(2) == 0) {
                    out.append("paints ").append(sum(3, false));
                    paints = below(12) != 0;
                } else {
                    out.append(deed());
                }
                out.append(any("; ", ";", " ;\n", ";"));
            }
            String whole = below(4) == 0 ? hurt(out.toString()) : out.toString();
            if (whole.length() <= 300) {
                return whole;
            }
        }
        return "";
    }

    private String deed() {
        switch (below(7)) {
            case 0: return "place " + below(30) + " kind " + below(4);
            case 1: return "paint " + below(10) + " at " + below(30);
            case 2: return "child " + (1 + below(9)) + " luck " + below(10);
            case 3: return "run " + below(4) + " from " + below(30);
            case 4: return "cut " + below(30);
            case 5: return "add " + below(30);
            default: return "year " + (below(6) == 0 ? 1 + below(60) : 1);
        }
    }

    String sum(int deep, boolean catches) {
        StringBuilder out = new StringBuilder(product(deep, catches));
        while (below(3) == 0) {
            out.append(any("+", "-", " + ", " - ")).append(product(deep, catches));
        }
        return out.toString();
    }

    private String product(int deep, boolean catches) {
        StringBuilder out = new StringBuilder(one(deep, catches));
        while (below(4) == 0) {
            out.append(any("*", "/", " * ", " / ")).append(one(deep, catches));
        }
        return out.toString();
    }

    private String one(int deep, boolean catches) {
        switch (below(deep > 0 ? 9 : 4)) {
            case 0: return "" + (below(5) == 0 ? below(10000) : below(12));
            case 1:
            case 2: return any("year", "place", "kind", "paint");
            case 3: return catches ? any("count", "stride", "luck", "who") : "paint";
            case 4: return "(" + sum(deep - 1, catches) + ")";
            case 5: return "- " + one(deep - 1, catches);
            case 6: return "round " + one(deep - 1, catches) + " of " + one(deep - 1, catches);
            case 7: return "kinds " + one(deep - 1, catches);
            default: return "if " + either(deep - 1, catches) + " then " + sum(deep - 1, catches) + " else "
                + sum(deep - 1, catches) + " end";
        }
    }

    private String either(int deep, boolean catches) {
        StringBuilder out = new StringBuilder(ask(deep, catches));
        while (below(3) == 0) {
            out.append(any(" or ", " and ")).append(ask(deep, catches));
        }
        return out.toString();
    }

    private String ask(int deep, boolean catches) {
        if (deep > 0 && below(4) == 0) {
            return "not " + ask(deep - 1, catches);
        }
        return sum(deep, catches) + any("<", "<=", ">", ">=", "=", "#") + sum(deep, catches);
    }

    private String hurt(String text) {
        String out = text;
        for (int i = below(3); i >= 0; i--) {
            int at = below(out.length() + 1);
            switch (below(4)) {
                case 0:
                    out = out.substring(0, at);
                    break;
                case 1:
                    out = out.substring(0, at) + out.substring(Math.min(out.length(), at + 1 + below(6)));
                    break;
                case 2:
                    out = out.substring(0, at) + " " + WORDS[below(WORDS.length)] + " " + out.substring(at);
                    break;
                default:
                    out = out.substring(0, at) + WORDS[below(WORDS.length)] + out.substring(at);
            }
        }
        return out;
    }

    /** Openings one in another, around the limit of eight. */
    String deepText() {
        int levels = 6 + below(5);
        StringBuilder head = new StringBuilder(any("catches ", "paints "));
        StringBuilder tail = new StringBuilder();
        for (int i = 0; i < levels; i++) {
            switch (below(6)) {
                case 0:
                    head.append("(1+");
                    tail.insert(0, ")");
                    break;
                case 1:
                    head.append("-");
                    break;
                case 2:
                    head.append("kinds ");
                    break;
                case 3:
                    head.append("round ");
                    tail.insert(0, " of 7");
                    break;
                case 4:
                    head.append("round 9 of ");
                    break;
                default:
                    head.append(any("if not 1<", "if 1=1 or 2=2 and 3<4+5*"));
                    tail.insert(0, " then 1 else 2 end");
            }
        }
        String out = head + "place" + tail + ";";
        return out.length() <= 300 ? out : "";
    }

    /** Words and signs in no order. */
    String salad() {
        StringBuilder out = new StringBuilder();
        for (int i = below(30); i > 0; i--) {
            out.append(WORDS[below(WORDS.length)]).append(any("", " "));
        }
        return out.length() <= 300 ? out.toString() : out.substring(0, 300);
    }
}
