import java.nio.charset.StandardCharsets;
import java.util.Random;

/** Random runs of calls, all promises: the class must answer as the model of the document does. */
public final class ModelTest {
    private static final Check CHECK = new Check("ModelTest");
    private static final String YEARS = "year 60;".repeat(24);
    private static Random random;
    private static Texts texts;
    private static RailingsCount x;
    private static Model m;
    private static String where;

    public static void main(String[] args) {
        int runs = args.length > 0 ? Integer.parseInt(args[0]) : 300;
        int first = args.length > 1 ? Integer.parseInt(args[1]) : 0;
        for (int seed = first; seed < first + runs; seed++) {
            random = new Random(seed);
            texts = new Texts(random);
            x = new RailingsCount();
            m = new Model();
            start(seed);
            for (int i = 0; i < 400; i++) {
                where = "run " + seed + " call " + i + ": ";
                call();
            }
        }
        CHECK.finish();
    }

    /** A third of the runs begin with children, a ring of few bars or years near the last. */
    private static void start(int seed) {
        where = "run " + seed + " start: ";
        if (seed % 3 > 0) {
            for (int i = random.nextInt(8); i > 0; i--) {
                same("child", x.child(1 + i, i), m.child(1 + i, i));
            }
            int bars = random.nextInt(4);
            for (int p = 0; p < 30; p++) {
                int kind = random.nextInt(4) < bars ? 1 : random.nextInt(12) == 0 ? 3 : 2 * random.nextInt(2);
                same("bar", x.bar(p, kind), m.bar(p, kind));
            }
        }
        if (seed % 5 == 0) {
            read(YEARS);
            for (int i = 0; i < 6; i++) {
                same("played", x.played(0), m.played(0));
            }
            for (int i = 0; i < 23; i++) {
                same("year", x.year(59), m.year(59));
            }
        }
    }

    private static void same(String call, long got, long want) {
        CHECK.due(where + call, got, want);
    }

    private static void same(String call, boolean got, boolean want) {
        CHECK.due(where + call, got, want);
    }

    /** Mostly low .. high, then just outside, then anything. */
    private static int pick(int low, int high) {
        switch (random.nextInt(40)) {
            case 0: return low - 1;
            case 1: return high + 1;
            case 2: return random.nextInt();
            case 3: return random.nextBoolean() ? Integer.MAX_VALUE : Integer.MIN_VALUE;
            case 4: return low;
            case 5: return high;
            default: return low + random.nextInt(high - low + 1);
        }
    }

    private static int place() {
        return pick(0, 29);
    }

    private static int child() {
        int n = m.all.children.size();
        return n == 0 ? pick(0, 2) : pick(0, n - 1);
    }

    private static void read(String text) {
        byte[] bytes = text.getBytes(StandardCharsets.ISO_8859_1);
        same("end(0)", x.end(0), m.end(0));
        for (int i = 0; i < bytes.length; i += 20) {
            int a = Check.word(bytes, i);
            int b = Check.word(bytes, i + 4);
            int c = Check.word(bytes, i + 8);
            int d = Check.word(bytes, i + 12);
            int e = Check.word(bytes, i + 16);
            same("feed", x.feed(a, b, c, d, e), m.feed(a, b, c, d, e));
        }
        same("end(n)", x.end(bytes.length), m.end(bytes.length));
        same("text() of " + text, x.text(), m.text());
        same("fault(0) of " + text, x.fault(0), m.fault(0));
        same("fault(1) of " + text, x.fault(1), m.fault(1));
    }

    private static void call() {
        int what = random.nextInt(100);
        if (what < 8) {
            tapes();
        } else if (what < 22) {
            tells();
        } else if (what < 45) {
            deeds();
        } else if (what < 60) {
            state();
        } else if (what < 75) {
            odds();
        } else if (what < 85) {
            riddles();
        } else {
            ring();
        }
    }

    private static void tapes() {
        switch (random.nextInt(8)) {
            case 0:
            case 1:
            case 2:
                read(texts.text());
                break;
            case 3:
                read(texts.deepText());
                break;
            case 4:
                read(texts.salad());
                break;
            case 5: {
                int a = random.nextInt();
                same("feed", x.feed(a, ~a, a * 7, 0x20202020, a >>> 3), m.feed(a, ~a, a * 7, 0x20202020, a >>> 3));
                break;
            }
            case 6: {
                int n = pick(0, 40);
                same("end(" + n + ")", x.end(n), m.end(n));
                break;
            }
            default:
                same("text()", x.text(), m.text());
        }
        int f = pick(0, 1);
        same("fault(" + f + ")", x.fault(f), m.fault(f));
    }

    private static void tells() {
        int p = place();
        int k = pick(0, 3);
        int n = pick(0, 9);
        int c = child();
        int v = pick(0, 12);
        int w = pick(0, 99);
        switch (random.nextInt(9)) {
            case 0: same("bar(" + p + "," + k + ")", x.bar(p, k), m.bar(p, k)); break;
            case 1: same("paint(" + p + "," + n + ")", x.paint(p, n), m.paint(p, n)); break;
            case 2: {
                int s = pick(1, 9);
                same("child(" + s + "," + n + ")", x.child(s, n), m.child(s, n));
                break;
            }
            case 3:
            case 4: {
                int t = pick(-1, Math.max(0, m.all.texts.size() - 1));
                same("by(" + t + ")", x.by(t), m.by(t));
                break;
            }
            case 5: same("value(" + v + "," + w + ")", x.value(v, w), m.value(v, w)); break;
            case 6: {
                int odds = random.nextBoolean() && m.isChild(c) && Model.in(p, 0, 29) ? m.catches(c, p, 1) : pick(0, 10);
                int who = random.nextInt(10) == 0 ? -1 : c;
                same("said(" + who + "," + p + "," + odds + ")", x.said(who, p, odds), m.said(who, p, odds));
                break;
            }
            case 7: same("whose()", x.whose(), m.whose()); break;
            default: {
                int from = random.nextInt(8) == 0 ? -1 : pick(0, 11);
                int many = pick(1, 12 - Math.max(0, Math.min(from, 11)));
                int bars = random.nextBoolean() ? pick(0, 12) : Math.max(0, Math.min(12, many / 2));
                same("tell(" + from + "," + many + "," + bars + ")", x.tell(from, many, bars), m.tell(from, many, bars));
            }
        }
    }

    private static void deeds() {
        int p = place();
        int c = child();
        switch (random.nextInt(12)) {
            case 0: same("run(" + c + "," + p + ")", x.run(c, p), m.run(c, p)); break;
            case 1: same("cut(" + p + ")", x.cut(p), m.cut(p)); break;
            case 2: same("add(" + p + ")", x.add(p), m.add(p)); break;
            case 3:
            case 4: {
                int n = random.nextInt(4) == 0 ? pick(1, 60) : 1 + random.nextInt(3);
                same("year(" + n + ")", x.year(n), m.year(n));
                break;
            }
            case 5: {
                int t = pick(0, Math.max(0, m.all.texts.size() - 1));
                same("played(" + t + ")", x.played(t), m.played(t));
                break;
            }
            case 6: {
                int seed = pick(0, 9999);
                int n = pick(1, 40);
                same("ages(" + seed + "," + n + ")", x.ages(seed, n), m.ages(seed, n));
                break;
            }
            case 7:
            case 8:
            case 9: same("undo()", x.undo(), m.undo()); break;
            case 10: same("image()", x.image(), m.image()); break;
            default: same("back()", x.back(), m.back());
        }
    }

    private static void state() {
        int what = pick(0, 3);
        int p = place();
        int c = child();
        int n = pick(1, 60);
        switch (random.nextInt(8)) {
            case 0: same("of(" + c + "," + what + ")", x.of(c, what), m.of(c, what)); break;
            case 1: same("ofBar(" + p + "," + what + ")", x.ofBar(p, what), m.ofBar(p, what)); break;
            case 2: same("catches(" + c + "," + p + "," + n + ")", x.catches(c, p, n), m.catches(c, p, n)); break;
            case 3: same("is(" + what + ")", x.is(what), m.is(what)); break;
            case 4: {
                int i = pick(-1, 7);
                same("book(" + i + "," + what + ")", x.book(i, what), m.book(i, what));
                break;
            }
            case 5: same("foretold(" + n + "," + c + ")", x.foretold(n, c), m.foretold(n, c)); break;
            case 6: {
                int a = pick(0, 6);
                same("about(" + a + ")", x.about(a), m.about(a));
                break;
            }
            default: everything();
        }
    }

    /** All that can be seen of the state. */
    private static void everything() {
        for (int i = 0; i < 7; i++) {
            same("about " + i, x.about(i), m.about(i));
            same("number of " + i, x.of(i, 2), m.of(i, 2));
            same("is " + i, x.is(i), m.is(i));
            for (int what = 0; what < 4; what++) {
                same("book " + i + " " + what, x.book(i, what), m.book(i, what));
            }
        }
        for (int p = 0; p < 30; p++) {
            for (int what = 0; what < 3; what++) {
                same("place " + p + " " + what, x.ofBar(p, what), m.ofBar(p, what));
            }
        }
    }

    private static void odds() {
        int p = place();
        int c = child();
        int n = pick(0, 12);
        boolean low = random.nextBoolean();
        switch (random.nextInt(8)) {
            case 0: same("likely(" + c + "," + p + "," + n + ")", x.likely(c, p, n, low), m.likely(c, p, n, low)); break;
            case 1: same("start(" + c + "," + n + ")", x.start(c, n), m.start(c, n)); break;
            case 2: same("mean(" + c + "," + p + ")", x.mean(c, p, low), m.mean(c, p, low)); break;
            case 3: same("which(" + c + "," + p + "," + n + ")", x.which(c, p, n), m.which(c, p, n)); break;
            case 4: {
                int k = random.nextBoolean() ? pick(1, 60) : pick(1, 8);
                same("nth(" + p + "," + k + ")", x.nth(p, k), m.nth(p, k));
                break;
            }
            case 5: same("worth(" + c + "," + p + ")", x.worth(c, p, low), m.worth(c, p, low)); break;
            case 6: {
                int k = pick(0, 11);
                same("goesOn(" + c + "," + p + "," + k + ")", x.goesOn(c, p, k), m.goesOn(c, p, k));
                break;
            }
            default: same("best(" + c + ")", x.best(c), m.best(c));
        }
    }

    private static void riddles() {
        int err = pick(0, 2);
        int what = pick(0, 2);
        int a = place();
        int b = pick(Math.max(0, Math.min(a, 29)), 29);
        boolean first = random.nextBoolean();
        switch (random.nextInt(3)) {
            case 0: same("could(" + err + "," + what + ")", x.could(err, what), m.could(err, what)); break;
            case 1: same("ask(" + err + ")", x.ask(err), m.ask(err)); break;
            default: same("sings(" + a + "," + b + ")", x.sings(a, b, first), m.sings(a, b, first));
        }
    }

    private static void ring() {
        int p = place();
        int q = place();
        int a = child();
        int b = child();
        int n = random.nextBoolean() ? pick(1, 30) : pick(1, 4);
        int kind = pick(0, 3);
        boolean first = random.nextBoolean();
        switch (random.nextInt(14)) {
            case 0: same("visits(" + a + "," + p + ")", x.visits(a, p), m.visits(a, p)); break;
            case 1: same("meet(" + a + "," + p + "," + b + "," + q + ")", x.meet(a, p, b, q), m.meet(a, p, b, q)); break;
            case 2: same("period()", x.period(), m.period()); break;
            case 3: same("least()", x.least(), m.least()); break;
            case 4: same("mirrors()", x.mirrors(), m.mirrors()); break;
            case 5: same("longest(" + kind + "," + first + ")", x.longest(kind, first), m.longest(kind, first)); break;
            case 6: same("arc(" + n + ")", x.arc(n), m.arc(n)); break;
            case 7: same("quiet(" + n + ")", x.quiet(n), m.quiet(n)); break;
            case 8: same("changed()", x.changed(), m.changed()); break;
            case 9: same("greatest()", x.greatest(), m.greatest()); break;
            case 10: same("twins()", x.twins(), m.twins()); break;
            case 11: same("odd()", x.odd(), m.odd()); break;
            case 12: same("thickest()", x.thickest(), m.thickest()); break;
            default: same("ledger(" + a + ")", x.ledger(a), m.ledger(a));
        }
    }
}
