import java.math.BigInteger;
import java.nio.charset.StandardCharsets;
import java.util.ArrayList;
import java.util.Arrays;
import java.util.HashMap;
import java.util.List;
import java.util.Map;

/**
 * The document once more, written in other ways than the class: trees of asking, deep copies, whole enumeration.
 * Where it and the class differ, one of them is wrong.
 */
final class Model {
    static final int NONE = -1;

    interface Sum {
        long of(Scene s);
    }

    interface Ask {
        boolean of(Scene s);
    }

    record Scene(int[] kind, int[] paint, int year, int place, int count, int stride, int luck, int who) {
    }

    record Clause(String head, int a, int b) {
    }

    static final class Script {
        Sum catches = null;
        Sum paints = null;
        final List<Clause> clauses = new ArrayList<>();
    }

    @SuppressWarnings("serial")
    static final class Fault extends RuntimeException {
        final int what;
        final int at;

        Fault(int what, int at) {
            this.what = what;
            this.at = at;
        }
    }

    // ---------------------------------------------------------------- reading

    record Token(String text, int at) {
        boolean isNumber() {
            return !text.isEmpty() && Character.isDigit(text.charAt(0));
        }
    }

    static final class Parser {
        final List<Token> tokens = new ArrayList<>();
        int i = 0;
        boolean inCatches = false;

        Parser(String s) {
            int p = 0;
            while (p < s.length()) {
                char c = s.charAt(p);
                int q = p + 1;
                if (c == ' ' || c == '\n') {
                    p++;
                    continue;
                }
                if (letter(c)) {
                    while (q < s.length() && letter(s.charAt(q))) {
                        q++;
                    }
                } else if (digit(c)) {
                    while (q < s.length() && digit(s.charAt(q))) {
                        q++;
                    }
                } else if ((c == '<' || c == '>') && q < s.length() && s.charAt(q) == '=') {
                    q++;
                } else if ("<>=#+-*/();".indexOf(c) < 0) {
                    tokens.add(new Token("?", p));
                    p++;
                    continue;
                }
                tokens.add(new Token(s.substring(p, q), p));
                p = q;
            }
            tokens.add(new Token("", s.length()));
        }

        static boolean letter(char c) {
            return c >= 'a' && c <= 'z' || c >= 'A' && c <= 'Z';
        }

        static boolean digit(char c) {
            return c >= '0' && c <= '9';
        }

        Token peek() {
            return tokens.get(i);
        }

        boolean at(String... any) {
            return Arrays.asList(any).contains(peek().text());
        }

        Token take(String... any) {
            if (!at(any)) {
                throw new Fault(1, peek().at());
            }
            return tokens.get(i++);
        }

        int number(int low, int high) {
            Token t = peek();
            if (!t.isNumber()) {
                throw new Fault(1, t.at());
            }
            BigInteger v = new BigInteger(t.text());
            if (v.compareTo(BigInteger.valueOf(low)) < 0 || v.compareTo(BigInteger.valueOf(high)) > 0) {
                throw new Fault(2, t.at());
            }
            i++;
            return v.intValue();
        }

        Script all() {
            Script script = new Script();
            while (!peek().text().isEmpty()) {
                clause(script);
                take(";");
            }
            return script;
        }

        void clause(Script script) {
            Token t = take("catches", "paints", "place", "paint", "child", "run", "cut", "add", "year");
            String h = t.text();
            if (h.equals("catches") && script.catches != null || h.equals("paints") && script.paints != null) {
                throw new Fault(4, t.at());
            }
            if (script.clauses.size() >= 24) {
                throw new Fault(6, t.at());
            }
            int a = 0;
            int b = 0;
            if (h.equals("catches") || h.equals("paints")) {
                inCatches = h.equals("catches");
                Sum law = sum(0);
                if (inCatches) {
                    script.catches = law;
                } else {
                    script.paints = law;
                }
            } else if (h.equals("place")) {
                a = number(0, 29);
                take("kind");
                b = number(0, 3);
            } else if (h.equals("paint")) {
                a = number(0, 9);
                take("at");
                b = number(0, 29);
            } else if (h.equals("child")) {
                a = number(1, 9);
                take("luck");
                b = number(0, 9);
            } else if (h.equals("run")) {
                a = number(0, 6);
                take("from");
                b = number(0, 29);
            } else {
                a = h.equals("year") ? number(1, 60) : number(0, 29);
            }
            script.clauses.add(new Clause(h, a, b));
        }

        static long held(long v) {
            return Math.max(-1000000, Math.min(1000000, v));
        }

        Sum sum(int deep) {
            Sum left = product(deep);
            while (at("+", "-")) {
                boolean plus = take("+", "-").text().equals("+");
                Sum l = left;
                Sum r = product(deep);
                left = s -> held(plus ? l.of(s) + r.of(s) : l.of(s) - r.of(s));
            }
            return left;
        }

        Sum product(int deep) {
            Sum left = one(deep);
            while (at("*", "/")) {
                boolean times = take("*", "/").text().equals("*");
                Sum l = left;
                Sum r = one(deep);
                left = s -> held(times ? l.of(s) * r.of(s) : r.of(s) == 0 ? 0 : l.of(s) / r.of(s));
            }
            return left;
        }

        void opens(int deep) {
            if (deep > 8) {
                throw new Fault(3, tokens.get(i - 1).at());
            }
        }

        Sum one(int deep) {
            Token t = peek();
            if (t.isNumber()) {
                int v = number(0, 9999);
                return s -> v;
            }
            take("year", "place", "kind", "paint", "count", "stride", "luck", "who", "(", "-", "round", "kinds", "if");
            switch (t.text()) {
                case "year": return s -> s.year();
                case "place": return s -> s.place();
                case "kind": return s -> s.kind()[s.place()];
                case "paint": return s -> s.paint()[s.place()];
                case "count": return mine(t, s -> s.count());
                case "stride": return mine(t, s -> s.stride());
                case "luck": return mine(t, s -> s.luck());
                case "who": return mine(t, s -> s.who());
                default:
            }
            opens(deep + 1);
            return opened(t.text(), deep + 1);
        }

        Sum mine(Token t, Sum sum) {
            if (!inCatches) {
                throw new Fault(5, t.at());
            }
            return sum;
        }

        Sum opened(String what, int deep) {
            if (what.equals("(")) {
                Sum in = sum(deep);
                take(")");
                return in;
            }
            if (what.equals("-")) {
                Sum in = one(deep);
                return s -> -in.of(s);
            }
            if (what.equals("kinds")) {
                Sum in = one(deep);
                return s -> in.of(s) < 0 || in.of(s) > 29 ? 0 : s.kind()[(int) in.of(s)];
            }
            if (what.equals("round")) {
                Sum a = one(deep);
                take("of");
                Sum b = one(deep);
                return s -> {
                    long by = b.of(s);
                    if (by <= 0) {
                        return 0;
                    }
                    long v = a.of(s) % by;
                    return v < 0 ? v + by : v;
                };
            }
            Ask test = either(deep);
            take("then");
            Sum yes = sum(deep);
            take("else");
            Sum no = sum(deep);
            take("end");
            return s -> test.of(s) ? yes.of(s) : no.of(s);
        }

        Ask either(int deep) {
            Ask left = both(deep);
            while (at("or")) {
                take("or");
                Ask l = left;
                Ask r = both(deep);
                left = s -> l.of(s) | r.of(s);
            }
            return left;
        }

        Ask both(int deep) {
            Ask left = ask(deep);
            while (at("and")) {
                take("and");
                Ask l = left;
                Ask r = ask(deep);
                left = s -> l.of(s) & r.of(s);
            }
            return left;
        }

        Ask ask(int deep) {
            if (at("not")) {
                take("not");
                opens(deep + 1);
                Ask in = ask(deep + 1);
                return s -> !in.of(s);
            }
            Sum a = sum(deep);
            String by = take("<", "<=", ">", ">=", "=", "#").text();
            Sum b = sum(deep);
            return s -> {
                long c = a.of(s) - b.of(s);
                switch (by) {
                    case "<": return c < 0;
                    case "<=": return c <= 0;
                    case ">": return c > 0;
                    case ">=": return c >= 0;
                    case "=": return c == 0;
                    default: return c != 0;
                }
            };
        }
    }

    // ---------------------------------------------------------------- state

    record Run(int year, int child, int place, int number) {
    }

    record Told(boolean ofKind, int at, int what) {
    }

    static final class Yard {
        int[] kind = new int[30];
        int[] paint = new int[30];
        Integer[] number = new Integer[7];
        int year = 0;
        int x = 263;
        List<Run> book = new ArrayList<>();

        Yard copy() {
            Yard y = new Yard();
            y.kind = kind.clone();
            y.paint = paint.clone();
            y.number = number.clone();
            y.year = year;
            y.x = x;
            y.book = new ArrayList<>(book);
            return y;
        }
    }

    static final class Step {
        final Yard ahead;
        final List<Told> since = new ArrayList<>();

        Step(Yard ahead) {
            this.ahead = ahead;
        }

        Step copy() {
            Step s = new Step(ahead.copy());
            s.since.addAll(since);
            return s;
        }
    }

    static final class All {
        Yard yard = new Yard();
        List<Step> steps = new ArrayList<>();
        List<int[]> children = new ArrayList<>();
        List<Script> texts = new ArrayList<>();
        Script rule = null;
        List<int[]> tellings = new ArrayList<>();
        List<int[]> said = new ArrayList<>();
        int[] values = {0, 1, 2, 3, 4, 5, 6, 7, 8, 9, 10, 11, 12};

        All copy() {
            All a = new All();
            a.yard = yard.copy();
            for (Step s : steps) {
                a.steps.add(s.copy());
            }
            a.children.addAll(children);
            a.texts.addAll(texts);
            a.rule = rule;
            a.tellings.addAll(tellings);
            a.said.addAll(said);
            a.values = values.clone();
            return a;
        }
    }

    All all = new All();
    All image;
    String tape = "";
    int fault = NONE;
    int faultAt = NONE;

    Model() {
        Arrays.fill(all.yard.kind, 1);
        image = all.copy();
    }

    static boolean in(int v, int low, int high) {
        return v >= low && v <= high;
    }

    boolean isChild(int c) {
        return in(c, 0, all.children.size() - 1);
    }

    // ---------------------------------------------------------------- telling

    boolean bar(int at, int kind) {
        if (!in(at, 0, 29) || !in(kind, 0, 3)) {
            return false;
        }
        tellNow(new Told(true, at, kind));
        return true;
    }

    boolean paint(int at, int paint) {
        if (!in(at, 0, 29) || !in(paint, 0, 9)) {
            return false;
        }
        tellNow(new Told(false, at, paint));
        return true;
    }

    private void tellNow(Told told) {
        apply(told);
        if (!all.steps.isEmpty()) {
            all.steps.get(all.steps.size() - 1).since.add(told);
        }
    }

    private void apply(Told told) {
        (told.ofKind() ? all.yard.kind : all.yard.paint)[told.at()] = told.what();
    }

    int child(int stride, int luck) {
        if (!in(stride, 1, 9) || !in(luck, 0, 9) || all.children.size() == 7) {
            return NONE;
        }
        all.children.add(new int[] {stride, luck});
        return all.children.size() - 1;
    }

    int feed(int... words) {
        if (tape.length() + 20 > 300) {
            return NONE;
        }
        byte[] bytes = new byte[20];
        for (int i = 0; i < 20; i++) {
            bytes[i] = (byte) (words[i / 4] >> 24 - i % 4 * 8);
        }
        tape += new String(bytes, StandardCharsets.ISO_8859_1);
        return tape.length();
    }

    int end(int n) {
        if (n < 0 || n > tape.length()) {
            return NONE;
        }
        tape = tape.substring(0, n);
        return n;
    }

    int text() {
        if (all.texts.size() == 4) {
            return NONE;
        }
        String read = tape;
        tape = "";
        try {
            all.texts.add(new Parser(read).all());
            fault = 0;
            faultAt = NONE;
            return all.texts.size() - 1;
        } catch (Fault f) {
            fault = f.what;
            faultAt = f.at;
            return NONE;
        }
    }

    int fault(int what) {
        return what == 0 ? fault : what == 1 ? faultAt : NONE;
    }

    boolean by(int text) {
        if (text == NONE) {
            all.rule = null;
            return true;
        }
        if (!in(text, 0, all.texts.size() - 1)) {
            return false;
        }
        all.rule = all.texts.get(text);
        return true;
    }

    // ---------------------------------------------------------------- doing

    private int odds(Yard y, Script rule, int child, int place, int count) {
        if (rule == null || rule.catches == null) {
            return 1;
        }
        int[] c = all.children.get(child);
        long v = rule.catches.of(new Scene(y.kind, y.paint, y.year, place, count, c[0], c[1], child));
        return (int) Math.max(0, Math.min(10, v));
    }

    private int thickens(Yard y, int place) {
        if (all.rule == null || all.rule.paints == null) {
            return 1;
        }
        long v = all.rule.paints.of(new Scene(y.kind, y.paint, y.year, place, 0, 0, 0, 0));
        return (int) Math.max(0, Math.min(9, v));
    }

    private static int draw(Yard y, int by) {
        int v = y.x % by;
        y.x = (y.x * 503 + 389) % 30691;
        return v;
    }

    private void step() {
        all.steps.add(new Step(all.yard.copy()));
        if (all.steps.size() > 30) {
            all.steps.remove(0);
        }
    }

    private int goes(Yard y, int child, int from) {
        int n = 0;
        for (int p : ahead(y, from)) {
            n++;
            if (draw(y, 10) < odds(y, all.rule, child, p, n)) {
                break;
            }
        }
        y.number[child] = n;
        y.book.add(new Run(y.year, child, from, n));
        if (y.book.size() > 30) {
            y.book.remove(0);
        }
        return n;
    }

    /** The bars that a run meets if it is never caught. */
    private static List<Integer> ahead(Yard y, int from) {
        List<Integer> bars = new ArrayList<>();
        for (int i = from; i < from + 60 && y.kind[i % 30] != 3; i++) {
            if (y.kind[i % 30] == 1) {
                bars.add(i % 30);
            }
        }
        return bars;
    }

    private int passes(Yard y) {
        int came = 0;
        for (int c = 0; c < all.children.size(); c++) {
            if (y.number[c] == null) {
                goes(y, c, draw(y, 30));
                came++;
            }
        }
        for (int p = 0; p < 30; p++) {
            if (y.kind[p] == 1) {
                y.paint[p] = Math.min(9, y.paint[p] + thickens(y, p));
            }
        }
        y.year++;
        return came;
    }

    int run(int child, int from) {
        if (!isChild(child) || !in(from, 0, 29) || all.yard.number[child] != null) {
            return NONE;
        }
        step();
        return goes(all.yard, child, from);
    }

    boolean cut(int at) {
        if (!in(at, 0, 29) || all.yard.kind[at] != 1) {
            return false;
        }
        step();
        all.yard.kind[at] = 0;
        return true;
    }

    boolean add(int at) {
        if (!in(at, 0, 29) || all.yard.kind[at] != 0) {
            return false;
        }
        step();
        all.yard.kind[at] = 1;
        all.yard.paint[at] = 0;
        return true;
    }

    int year(int n) {
        if (!in(n, 1, 60) || all.yard.year + n > 9999) {
            return NONE;
        }
        int came = 0;
        for (int i = 0; i < n; i++) {
            step();
            came += passes(all.yard);
        }
        return came;
    }

    int played(int text) {
        if (!in(text, 0, all.texts.size() - 1)) {
            return -2;
        }
        List<Clause> clauses = all.texts.get(text).clauses;
        for (int i = 0; i < clauses.size(); i++) {
            if (!does(clauses.get(i))) {
                return i;
            }
        }
        return NONE;
    }

    private boolean does(Clause c) {
        switch (c.head()) {
            case "place": return bar(c.a(), c.b());
            case "paint": return paint(c.b(), c.a());
            case "child": return child(c.a(), c.b()) != NONE;
            case "run": return run(c.a(), c.b()) != NONE;
            case "cut": return cut(c.a());
            case "add": return add(c.a());
            case "year":
                for (int i = 0; i < c.a(); i++) {
                    if (year(1) == NONE) {
                        return false;
                    }
                }
                return true;
            default: return true;
        }
    }

    int ages(int seed, int n) {
        if (!in(seed, 0, 9999) || !in(n, 1, 40)) {
            return NONE;
        }
        step();
        Yard y = all.yard;
        y.x = seed * 2 + 263;
        for (int i = 0; i < n; i++) {
            int x = draw(y, Integer.MAX_VALUE);
            int p = x / 6 % 30;
            int what = x % 6;
            if (what < 2 && !all.children.isEmpty()) {
                int c = x % all.children.size();
                if (y.number[c] == null) {
                    goes(y, c, p);
                }
            } else if (what == 2 && y.kind[p] == 1) {
                y.kind[p] = 0;
            } else if (what == 3 && y.kind[p] == 0) {
                y.kind[p] = 1;
                y.paint[p] = 0;
            } else if (what > 3 && y.year < 9999) {
                passes(y);
            }
        }
        return y.year;
    }

    int undo() {
        if (all.steps.isEmpty()) {
            return NONE;
        }
        Step last = all.steps.remove(all.steps.size() - 1);
        all.yard = last.ahead;
        for (Told told : last.since) {
            tellNow(told);
        }
        return all.steps.size();
    }

    // ---------------------------------------------------------------- asking

    private int number(Yard y, int c) {
        return y.number[c] == null ? NONE : y.number[c];
    }

    int of(int child, int what) {
        if (!isChild(child) || !in(what, 0, 2)) {
            return -2;
        }
        return what == 2 ? number(all.yard, child) : all.children.get(child)[what];
    }

    int ofBar(int at, int what) {
        if (!in(at, 0, 29) || !in(what, 0, 2)) {
            return NONE;
        }
        return what == 0 ? all.yard.kind[at] : what == 1 ? all.yard.paint[at] : thickens(all.yard, at);
    }

    int catches(int child, int at, int count) {
        if (!isChild(child) || !in(at, 0, 29) || !in(count, 1, 60)) {
            return NONE;
        }
        return odds(all.yard, all.rule, child, at, count);
    }

    int is(int what) {
        if (what == 0) {
            return all.yard.year;
        }
        if (what == 1) {
            return all.yard.x;
        }
        int v = 0;
        if (what == 2) {
            for (int k : all.yard.kind) {
                v += k == 1 ? 1 : 0;
            }
            return v;
        }
        if (what == 3) {
            for (int c = 0; c < all.children.size(); c++) {
                v += all.yard.number[c] == null ? 1 << c : 0;
            }
            return v;
        }
        return -2;
    }

    int book(int i, int what) {
        if (i == NONE) {
            return all.yard.book.size();
        }
        if (!in(i, 0, all.yard.book.size() - 1) || !in(what, 0, 3)) {
            return -2;
        }
        Run r = all.yard.book.get(i);
        return new int[] {r.year(), r.child(), r.place(), r.number()}[what];
    }

    int foretold(int n, int child) {
        if (!in(n, 1, 60) || !isChild(child)) {
            return -2;
        }
        Yard y = all.yard.copy();
        for (int i = 0; i < n && y.year < 9999; i++) {
            passes(y);
        }
        return number(y, child);
    }

    // ---------------------------------------------------------------- odds, by fractions

    record Part(BigInteger up, BigInteger low) implements Comparable<Part> {
        static Part of(long up, long low) {
            return new Part(BigInteger.valueOf(up), BigInteger.valueOf(low)).lowest();
        }

        Part lowest() {
            BigInteger g = up.gcd(low);
            return new Part(up.divide(g), low.divide(g));
        }

        Part plus(Part o) {
            return new Part(up.multiply(o.low).add(o.up.multiply(low)), low.multiply(o.low)).lowest();
        }

        Part times(Part o) {
            return new Part(up.multiply(o.up), low.multiply(o.low)).lowest();
        }

        long told(boolean lower) {
            return (lower ? low : up).longValueExact();
        }

        @Override
        public int compareTo(Part o) {
            return up.multiply(o.low).compareTo(o.up.multiply(low));
        }
    }

    /** How likely each count is, by going on bar by bar. */
    private Part[] spread(Yard y, int child, int from) {
        Part[] out = new Part[61];
        Arrays.fill(out, Part.of(0, 1));
        Part still = Part.of(1, 1);
        int n = 0;
        for (int p : ahead(y, from)) {
            n++;
            int c = odds(y, all.rule, child, p, n);
            out[n] = out[n].plus(still.times(Part.of(c, 10)));
            still = still.times(Part.of(10 - c, 10));
        }
        out[n] = out[n].plus(still);
        return out;
    }

    long likely(int child, int from, int n, boolean low) {
        if (!isChild(child) || !in(from, 0, 29) || !in(n, 0, 12)) {
            return NONE;
        }
        return spread(all.yard, child, from)[n].told(low);
    }

    int start(int child, int n) {
        if (!isChild(child) || !in(n, 0, 12)) {
            return NONE;
        }
        Part most = Part.of(0, 1);
        int at = NONE;
        for (int p = 0; p < 30; p++) {
            Part v = spread(all.yard, child, p)[n];
            if (v.compareTo(most) > 0) {
                most = v;
                at = p;
            }
        }
        return at;
    }

    long mean(int child, int from, boolean low) {
        if (!isChild(child) || !in(from, 0, 29) || ahead(all.yard, from).size() > 12) {
            return NONE;
        }
        Part mean = Part.of(0, 1);
        Part[] spread = spread(all.yard, child, from);
        for (int n = 0; n < spread.length; n++) {
            mean = mean.plus(spread[n].times(Part.of(n, 1)));
        }
        return mean.told(low);
    }

    int which(int child, int from, int n) {
        if (!isChild(child) || !in(from, 0, 29) || !in(n, 0, 12)) {
            return NONE;
        }
        Part most = spread(all.yard, child, from)[n];
        int at = NONE;
        for (int p = 0; p < 30; p++) {
            if (all.yard.kind[p] == 1) {
                Yard y = all.yard.copy();
                y.kind[p] = 0;
                Part v = spread(y, child, from)[n];
                if (v.compareTo(most) > 0) {
                    most = v;
                    at = p;
                }
            }
        }
        return at;
    }

    int nth(int from, int n) {
        if (!in(from, 0, 29) || !in(n, 1, 60)) {
            return NONE;
        }
        List<Integer> bars = ahead(all.yard, from);
        return n <= bars.size() ? bars.get(n - 1) : NONE;
    }

    boolean value(int n, int value) {
        if (!in(n, 0, 12) || !in(value, 0, 99)) {
            return false;
        }
        all.values[n] = value;
        return true;
    }

    private Part on(int child, List<Integer> bars, int k) {
        int c = odds(all.yard, all.rule, child, bars.get(k), k + 1);
        return Part.of(10 - c, 10).times(most(child, bars, k + 1));
    }

    private Part most(int child, List<Integer> bars, int k) {
        Part stop = Part.of(all.values[k], 1);
        if (k == 12 || k == bars.size()) {
            return stop;
        }
        Part on = on(child, bars, k);
        return on.compareTo(stop) > 0 ? on : stop;
    }

    long worth(int child, int from, boolean low) {
        if (!isChild(child) || !in(from, 0, 29)) {
            return NONE;
        }
        return most(child, ahead(all.yard, from), 0).told(low);
    }

    int goesOn(int child, int from, int k) {
        if (!isChild(child) || !in(from, 0, 29) || !in(k, 0, 11)) {
            return NONE;
        }
        List<Integer> bars = ahead(all.yard, from);
        if (bars.size() <= k) {
            return NONE;
        }
        return on(child, bars, k).compareTo(Part.of(all.values[k], 1)) > 0 ? 1 : 0;
    }

    int best(int child) {
        if (!isChild(child)) {
            return NONE;
        }
        int at = 0;
        for (int p = 1; p < 30; p++) {
            Part v = most(child, ahead(all.yard, p), 0);
            if (v.compareTo(most(child, ahead(all.yard, at), 0)) > 0) {
                at = p;
            }
        }
        return at;
    }

    // ---------------------------------------------------------------- riddles

    int tell(int from, int n, int bars) {
        if (from == NONE) {
            all.tellings.clear();
            return 0;
        }
        if (!in(from, 0, 11) || n < 1 || n > 12 || from + n > 12 || !in(bars, 0, 12) || all.tellings.size() == 6) {
            return -2;
        }
        all.tellings.add(new int[] {from, n, bars});
        return all.tellings.size();
    }

    private static int barsOf(boolean[] way, int from, int n) {
        int bars = 0;
        for (int i = from; i < from + n; i++) {
            bars += way[i] ? 1 : 0;
        }
        return bars;
    }

    private List<boolean[]> ways(int err) {
        List<boolean[]> ways = new ArrayList<>();
        for (int w = 0; w < 4096; w++) {
            boolean[] way = new boolean[12];
            for (int i = 0; i < 12; i++) {
                way[i] = (w >> i & 1) == 1;
            }
            boolean fits = true;
            for (int[] t : all.tellings) {
                int out = barsOf(way, t[0], t[1]) - t[2];
                fits &= in(out, -err, err);
            }
            if (fits) {
                ways.add(way);
            }
        }
        return ways;
    }

    int could(int err, int what) {
        if (!in(err, 0, 2) || !in(what, 0, 2)) {
            return NONE;
        }
        List<boolean[]> ways = ways(err);
        if (what == 0) {
            return ways.size();
        }
        if (ways.isEmpty()) {
            return NONE;
        }
        int bits = 0;
        for (int i = 0; i < 12; i++) {
            boolean same = true;
            for (boolean[] way : ways) {
                same &= way[i] == (what == 1);
            }
            bits += same ? 1 << i : 0;
        }
        return bits;
    }

    int ask(int err) {
        if (!in(err, 0, 2)) {
            return NONE;
        }
        List<boolean[]> ways = ways(err);
        if (ways.size() < 2) {
            return NONE;
        }
        int fewest = Integer.MAX_VALUE;
        int where = NONE;
        for (int p = 0; p < 12; p++) {
            for (int n = 1; p + n <= 12; n++) {
                int[] left = new int[13];
                for (boolean[] way : ways) {
                    left[barsOf(way, p, n)]++;
                }
                int most = Arrays.stream(left).max().getAsInt();
                if (most < fewest) {
                    fewest = most;
                    where = 100 * p + n;
                }
            }
        }
        return where;
    }

    private int cost(int a, int b, Map<Integer, Integer> known) {
        if (a == b) {
            return 0;
        }
        Integer seen = known.get(a * 30 + b);
        if (seen != null) {
            return seen;
        }
        int least = Integer.MAX_VALUE;
        for (int t = a; t < b; t++) {
            least = Math.min(least, trying(a, b, t, known));
        }
        known.put(a * 30 + b, least);
        return least;
    }

    private int trying(int a, int b, int t, Map<Integer, Integer> known) {
        return all.yard.paint[t] + 1 + Math.max(cost(a, t, known), cost(t + 1, b, known));
    }

    int sings(int a, int b, boolean first) {
        if (!in(a, 0, 29) || !in(b, 0, 29) || a > b) {
            return NONE;
        }
        Map<Integer, Integer> known = new HashMap<>();
        int cost = cost(a, b, known);
        if (!first) {
            return cost;
        }
        for (int t = a; t < b; t++) {
            if (trying(a, b, t, known) == cost) {
                return t;
            }
        }
        return NONE;
    }

    // ---------------------------------------------------------------- the ring

    int visits(int child, int from) {
        if (!isChild(child) || !in(from, 0, 29)) {
            return NONE;
        }
        int bits = 0;
        int p = from;
        while ((bits >> p & 1) == 0) {
            bits |= 1 << p;
            p = (p + all.children.get(child)[0]) % 30;
        }
        return bits;
    }

    int meet(int a, int from, int b, int at) {
        if (!isChild(a) || !isChild(b) || !in(from, 0, 29) || !in(at, 0, 29)) {
            return NONE;
        }
        int p = from;
        int q = at;
        for (int i = 0; i < 1000; i++) {
            if (p == q) {
                return i;
            }
            p = (p + all.children.get(a)[0]) % 30;
            q = (q + all.children.get(b)[0]) % 30;
        }
        return NONE;
    }

    private String reading(int from, boolean backwards) {
        StringBuilder out = new StringBuilder();
        for (int i = 0; i < 30; i++) {
            out.append(all.yard.kind[Math.floorMod(backwards ? from - i : from + i, 30)]);
        }
        return out.toString();
    }

    int period() {
        int turn = 1;
        while (!reading(turn, false).equals(reading(0, false))) {
            turn++;
        }
        return turn;
    }

    int least() {
        int at = 0;
        for (int p = 1; p < 30; p++) {
            at = reading(p, false).compareTo(reading(at, false)) < 0 ? p : at;
        }
        return at;
    }

    int mirrors() {
        int n = 0;
        for (int m = 0; m < 30; m++) {
            n += reading(m, true).equals(reading(0, false)) ? 1 : 0;
        }
        return n;
    }

    int longest(int kind, boolean first) {
        if (!in(kind, 0, 3)) {
            return -2;
        }
        for (int n = 30; n > 0; n--) {
            String run = String.valueOf(kind).repeat(n);
            for (int p = 0; p < 30; p++) {
                if (reading(p, false).startsWith(run)) {
                    return first ? p : n;
                }
            }
        }
        return first ? NONE : 0;
    }

    private int bars(int from, int n) {
        return (int) reading(from, false).substring(0, n).chars().filter(c -> c == '1').count();
    }

    int arc(int n) {
        if (!in(n, 1, 30)) {
            return NONE;
        }
        int at = 0;
        for (int p = 1; p < 30; p++) {
            at = bars(p, n) > bars(at, n) ? p : at;
        }
        return at;
    }

    int quiet(int n) {
        if (!in(n, 1, 30)) {
            return NONE;
        }
        int count = 0;
        for (int p = 0; p < 30; p++) {
            count += bars(p, n) == 0 ? 1 : 0;
        }
        return count;
    }

    int changed() {
        int bits = 0;
        for (int p = 0; p < 30; p++) {
            bits += all.yard.kind[p] != image.yard.kind[p] ? 1 << p : 0;
        }
        return bits;
    }

    // ---------------------------------------------------------------- laws and numbers

    int said(int child, int at, int catches) {
        if (child == NONE) {
            all.said.clear();
            return 0;
        }
        if (!isChild(child) || !in(at, 0, 29) || !in(catches, 0, 10) || all.said.size() == 8) {
            return -2;
        }
        all.said.add(new int[] {child, at, catches});
        return all.said.size();
    }

    int whose() {
        int bits = 0;
        for (int t = 0; t < all.texts.size(); t++) {
            boolean so = true;
            for (int[] s : all.said) {
                so &= odds(all.yard, all.texts.get(t), s[0], s[1], 1) == s[2];
            }
            bits += so ? 1 << t : 0;
        }
        return bits;
    }

    int greatest() {
        int who = NONE;
        for (int c = 0; c < all.children.size(); c++) {
            if (all.yard.number[c] != null && (who == NONE || all.yard.number[c] > all.yard.number[who])) {
                who = c;
            }
        }
        return who;
    }

    int twins() {
        Map<Integer, Integer> seen = new HashMap<>();
        int pairs = 0;
        for (Integer n : all.yard.number) {
            if (n != null) {
                pairs += seen.getOrDefault(n, 0);
                seen.merge(n, 1, Integer::sum);
            }
        }
        return pairs;
    }

    int odd() {
        int bits = 0;
        for (int c = 0; c < 7; c++) {
            bits += all.yard.number[c] != null && (all.yard.number[c] & 1) == 1 ? 1 << c : 0;
        }
        return bits;
    }

    int thickest() {
        int most = Arrays.stream(all.yard.paint).max().getAsInt();
        int p = 0;
        while (all.yard.paint[p] != most) {
            p++;
        }
        return p;
    }

    int ledger(int child) {
        if (child != NONE && !isChild(child)) {
            return -2;
        }
        return all.yard.book.stream().filter(r -> child == NONE || r.child() == child).mapToInt(Run::number).sum();
    }

    int image() {
        image = all.copy();
        return all.yard.year;
    }

    int back() {
        all = image.copy();
        return all.yard.year;
    }

    int about(int what) {
        switch (what) {
            case 0: return all.children.size();
            case 1: return all.texts.size();
            case 2: return all.texts.indexOf(all.rule);
            case 3: return all.steps.size();
            case 4: return all.tellings.size();
            case 5: return all.said.size();
            case 6: return tape.length();
            default: return -2;
        }
    }
}
