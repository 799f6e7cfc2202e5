import java.util.Arrays;

/** Railings that count children: the ring, its laws and all that is asked of them. README.md tells how to use it. */
public final class RailingsCount {
    public static final int NONE = -1;

    private static final int OTHER = -2;
    private static final int PLACES = 30;
    private static final int WAY = 60;
    private static final int GAP = 0;
    private static final int BAR = 1;
    private static final int SPIKE = 3;
    private static final int MOST_PAINT = 9;
    private static final int CHILDREN = 7;
    private static final int TEXTS = 4;
    private static final int TAPE = 300;
    private static final int CLAUSES = 24;
    private static final int DEEPEST = 8;
    private static final int MOST_NUMBER = 9999;
    private static final int LAST_YEAR = 9999;
    private static final int MOST_YEARS = 60;
    private static final int MOST_AGES = 40;
    private static final int MOST_SEED = 9999;
    private static final int FIRST_X = 263;
    private static final int STEPS = 30;
    private static final int BOOK = 30;
    private static final int SURE = 10;
    private static final int COUNTED = 12;
    private static final int MOST_VALUE = 99;
    private static final int HIDDEN = 12;
    private static final int TELLINGS = 6;
    private static final int SAID = 8;

    private final State now = new State();
    private final State image = new State();
    private final Text[] texts = new Text[TEXTS];
    private final Judge judge = new Judge(now, texts);
    private final Play play = new Play(now, judge);
    private final Odds odds = new Odds(now, judge);
    private final Riddles riddles = new Riddles();
    private final Reader reader = new Reader();
    private final Square ahead = new Square();
    private final int[] tape = new int[TAPE];
    private int bytes = 0;
    private int fault = NONE;
    private int faultAt = NONE;

    public RailingsCount() {
    }

    // ---- what is told, by hand and by tape

    public boolean bar(int at, int kind) {
        return play.tellKind(at, kind);
    }

    public boolean paint(int at, int paint) {
        return play.tellPaint(at, paint);
    }

    public int child(int stride, int luck) {
        return play.tellChild(stride, luck);
    }

    public int feed(int a, int b, int c, int d, int e) {
        if (bytes + 20 > TAPE) {
            return NONE;
        }
        putFour(a);
        putFour(b);
        putFour(c);
        putFour(d);
        putFour(e);
        return bytes;
    }

    private void putFour(int word) {
        for (int shift = 24; shift >= 0 && bytes < TAPE; shift -= 8) {
            tape[bytes] = (word >>> shift) & 255;
            bytes++;
        }
    }

    public int end(int n) {
        if (n < 0 || n > bytes) {
            return NONE;
        }
        bytes = n;
        return n;
    }

    public int text() {
        if (now.texts >= TEXTS) {
            return NONE;
        }
        Text read = reader.read(tape, bytes);
        bytes = 0;
        fault = reader.fault;
        faultAt = reader.faultAt;
        if (read == null) {
            return NONE;
        }
        texts[now.texts] = read;
        now.texts++;
        return now.texts - 1;
    }

    public int fault(int what) {
        if (what == 0) {
            return fault;
        }
        return what == 1 ? faultAt : NONE;
    }

    public boolean by(int text) {
        if (text != NONE && !now.hasText(text)) {
            return false;
        }
        now.rule = text;
        return true;
    }

    // ---- what is done

    public int run(int child, int from) {
        return play.runNow(child, from);
    }

    public boolean cut(int at) {
        return play.cutNow(at);
    }

    public boolean add(int at) {
        return play.addNow(at);
    }

    public int year(int n) {
        if (n < 1 || n > MOST_YEARS || n > LAST_YEAR - now.square.year) {
            return NONE;
        }
        return play.yearsNow(n);
    }

    public int played(int text) {
        if (!now.hasText(text) || texts[text] == null) {
            return OTHER;
        }
        int[] clauses = texts[text].clauses;
        for (int i = 0; 3 * i + 2 < clauses.length; i++) {
            if (!play.deed(clauses[3 * i], clauses[3 * i + 1], clauses[3 * i + 2])) {
                return i;
            }
        }
        return NONE;
    }

    public int ages(int seed, int n) {
        if (seed < 0 || seed > MOST_SEED || n < 1 || n > MOST_AGES) {
            return NONE;
        }
        play.agesNow(seed, n);
        return now.square.year;
    }

    public int undo() {
        return now.steps.takeBack(now.square) ? now.steps.size : NONE;
    }

    // ---- what there is

    public int of(int child, int what) {
        if (!now.hasChild(child)) {
            return OTHER;
        }
        switch (what) {
            case 0: return now.strides[child];
            case 1: return now.lucks[child];
            case 2: return now.square.numbers[child];
            default: return OTHER;
        }
    }

    public int ofBar(int at, int what) {
        if (!isPlace(at)) {
            return NONE;
        }
        switch (what) {
            case 0: return now.square.kinds[at];
            case 1: return now.square.paints[at];
            case 2: return judge.paintsOf(now.square, at);
            default: return NONE;
        }
    }

    public int catches(int child, int at, int count) {
        if (!now.hasChild(child) || !isPlace(at) || count < 1 || count > WAY) {
            return NONE;
        }
        return judge.oddsOf(now.square, now.rule, child, at, count);
    }

    public int is(int what) {
        switch (what) {
            case 0: return now.square.year;
            case 1: return now.square.x;
            case 2: return now.square.barsFrom(0, PLACES);
            case 3: return now.numberless();
            default: return OTHER;
        }
    }

    public int book(int i, int what) {
        Square square = now.square;
        if (i == NONE) {
            return square.runs;
        }
        if (i < 0 || i >= square.runs || what < 0 || what > 3) {
            return OTHER;
        }
        return square.book[4 * i + what];
    }

    // ---- what comes, and how likely

    public int foretold(int n, int child) {
        if (n < 1 || n > MOST_YEARS || !now.hasChild(child)) {
            return OTHER;
        }
        ahead.copy(now.square);
        // whoever has no NUMBER runs in the first YEAR, so the later ones change none
        if (ahead.year < LAST_YEAR) {
            play.passYear(ahead);
        }
        return ahead.numbers[child];
    }

    public long likely(int child, int from, int n, boolean low) {
        if (!now.hasChild(child) || !isPlace(from) || n < 0 || n > COUNTED) {
            return NONE;
        }
        odds.look(child, from);
        return Odds.lowest(odds.chance(n), Odds.ten(n), low);
    }

    public int start(int child, int n) {
        if (!now.hasChild(child) || n < 0 || n > COUNTED) {
            return NONE;
        }
        return odds.startFor(child, n);
    }

    public long mean(int child, int from, boolean low) {
        if (!now.hasChild(child) || !isPlace(from)) {
            return NONE;
        }
        odds.look(child, from);
        if (odds.met > COUNTED) {
            return NONE;
        }
        return Odds.lowest(odds.meanCount(), Odds.ten(odds.met), low);
    }

    public int which(int child, int from, int n) {
        if (!now.hasChild(child) || !isPlace(from) || n < 0 || n > COUNTED) {
            return NONE;
        }
        return odds.cutFor(child, from, n);
    }

    public int nth(int from, int n) {
        if (!isPlace(from) || n < 1 || n > WAY) {
            return NONE;
        }
        return now.square.barMet(from, n);
    }

    public boolean value(int n, int value) {
        if (n < 0 || n > COUNTED || value < 0 || value > MOST_VALUE) {
            return false;
        }
        now.values[n] = value;
        return true;
    }

    public long worth(int child, int from, boolean low) {
        if (!now.hasChild(child) || !isPlace(from)) {
            return NONE;
        }
        odds.look(child, from);
        return Odds.lowest(odds.worthFrom(0), Odds.ten(odds.last()), low);
    }

    public int goesOn(int child, int from, int k) {
        if (!now.hasChild(child) || !isPlace(from) || k < 0 || k >= COUNTED) {
            return NONE;
        }
        odds.look(child, from);
        if (odds.met <= k) {
            return NONE;
        }
        return odds.onIsMore(k) ? 1 : 0;
    }

    public int best(int child) {
        return now.hasChild(child) ? odds.bestStart(child) : NONE;
    }

    // ---- what nobody knows

    public int tell(int from, int n, int bars) {
        if (from == NONE) {
            now.tellings.size = 0;
            return 0;
        }
        if (from < 0 || from >= HIDDEN || n < 1 || n > HIDDEN - from || bars < 0 || bars > HIDDEN) {
            return OTHER;
        }
        return now.tellings.put(from, n, bars) ? now.tellings.size : OTHER;
    }

    public int could(int err, int what) {
        if (err < 0 || err > 2 || what < 0 || what > 2) {
            return NONE;
        }
        riddles.gather(now.tellings, err);
        if (what == 0) {
            return riddles.size;
        }
        if (riddles.size == 0) {
            return NONE;
        }
        return what == 1 ? riddles.inAll : riddles.inNone();
    }

    public int ask(int err) {
        if (err < 0 || err > 2) {
            return NONE;
        }
        riddles.gather(now.tellings, err);
        return riddles.whereToRun();
    }

    public int sings(int a, int b, boolean first) {
        if (!isPlace(a) || !isPlace(b) || a > b) {
            return NONE;
        }
        riddles.weigh(now.square.paints, a, b);
        return first ? riddles.firstTry(a, b) : riddles.cost(a, b);
    }

    // ---- strides and the shape of the ring

    public int visits(int child, int from) {
        if (!now.hasChild(child) || !isPlace(from)) {
            return NONE;
        }
        int bits = 0;
        for (int i = 0; i < PLACES; i++) {
            bits |= 1 << (from + i * now.strides[child]) % PLACES;
        }
        return bits;
    }

    public int meet(int a, int from, int b, int at) {
        if (!now.hasChild(a) || !isPlace(from) || !now.hasChild(b) || !isPlace(at)) {
            return NONE;
        }
        for (int i = 0; i < PLACES; i++) {
            if ((from + i * now.strides[a]) % PLACES == (at + i * now.strides[b]) % PLACES) {
                return i;
            }
        }
        return NONE;
    }

    public int period() {
        return now.square.leastLikeTurn();
    }

    public int least() {
        return now.square.leastReading();
    }

    public int mirrors() {
        return now.square.mirrorCount();
    }

    public int longest(int kind, boolean first) {
        if (kind < GAP || kind > SPIKE) {
            return OTHER;
        }
        int most = 0;
        int place = NONE;
        for (int p = 0; p < PLACES; p++) {
            int like = now.square.likeFrom(p, kind);
            if (like > most) {
                most = like;
                place = p;
            }
        }
        return first ? place : most;
    }

    public int arc(int n) {
        if (n < 1 || n > PLACES) {
            return NONE;
        }
        int most = NONE;
        int place = NONE;
        for (int p = 0; p < PLACES; p++) {
            int bars = now.square.barsFrom(p, n);
            if (bars > most) {
                most = bars;
                place = p;
            }
        }
        return place;
    }

    public int quiet(int n) {
        if (n < 1 || n > PLACES) {
            return NONE;
        }
        int quiet = 0;
        for (int p = 0; p < PLACES; p++) {
            if (now.square.barsFrom(p, n) == 0) {
                quiet++;
            }
        }
        return quiet;
    }

    public int changed() {
        int bits = 0;
        for (int p = 0; p < PLACES; p++) {
            if (now.square.kinds[p] != image.square.kinds[p]) {
                bits |= 1 << p;
            }
        }
        return bits;
    }

    // ---- whose law, and NUMBERS

    public int said(int child, int at, int catches) {
        if (child == NONE) {
            now.said.size = 0;
            return 0;
        }
        if (!now.hasChild(child) || !isPlace(at) || catches < 0 || catches > SURE) {
            return OTHER;
        }
        return now.said.put(child, at, catches) ? now.said.size : OTHER;
    }

    public int whose() {
        int bits = 0;
        for (int text = 0; text < now.texts; text++) {
            if (judge.allSaidBy(text)) {
                bits |= 1 << text;
            }
        }
        return bits;
    }

    public int greatest() {
        int most = NONE;
        int who = NONE;
        for (int child = 0; child < now.children; child++) {
            if (now.square.numbers[child] > most) {
                most = now.square.numbers[child];
                who = child;
            }
        }
        return who;
    }

    public int twins() {
        int[] numbers = now.square.numbers;
        int pairs = 0;
        for (int a = 0; a < now.children; a++) {
            for (int b = a + 1; b < now.children; b++) {
                if (numbers[a] != NONE && numbers[a] == numbers[b]) {
                    pairs++;
                }
            }
        }
        return pairs;
    }

    public int odd() {
        int bits = 0;
        for (int child = 0; child < now.children; child++) {
            int number = now.square.numbers[child];
            if (number != NONE && number % 2 == 1) {
                bits |= 1 << child;
            }
        }
        return bits;
    }

    public int thickest() {
        int place = 0;
        for (int p = 1; p < PLACES; p++) {
            if (now.square.paints[p] > now.square.paints[place]) {
                place = p;
            }
        }
        return place;
    }

    public int ledger(int child) {
        if (child != NONE && !now.hasChild(child)) {
            return OTHER;
        }
        return now.square.written(child);
    }

    // ---- the image, and what there is of all

    public int image() {
        image.copy(now);
        return now.square.year;
    }

    public int back() {
        now.copy(image);
        return now.square.year;
    }

    public int about(int what) {
        switch (what) {
            case 0: return now.children;
            case 1: return now.texts;
            case 2: return now.rule;
            case 3: return now.steps.size;
            case 4: return now.tellings.size;
            case 5: return now.said.size;
            case 6: return bytes;
            default: return OTHER;
        }
    }

    private static boolean isPlace(int at) {
        return at >= 0 && at < PLACES;
    }

    /** What STEPS change: a copy of it, made ahead of a STEP, takes that one back. */
    static final class Square {
        final int[] kinds = new int[PLACES];
        final int[] paints = new int[PLACES];
        final int[] numbers = new int[CHILDREN];
        final int[] book = new int[4 * BOOK];
        int runs = 0;
        int year = 0;
        int x = FIRST_X;

        Square() {
            Arrays.fill(kinds, BAR);
            Arrays.fill(numbers, NONE);
        }

        void copy(Square from) {
            System.arraycopy(from.kinds, 0, kinds, 0, PLACES);
            System.arraycopy(from.paints, 0, paints, 0, PLACES);
            System.arraycopy(from.numbers, 0, numbers, 0, CHILDREN);
            System.arraycopy(from.book, 0, book, 0, 4 * from.runs);
            runs = from.runs;
            year = from.year;
            x = from.x;
        }

        /** What X is ahead of the draw; X is anew then. */
        int drawn() {
            int old = x;
            x = (x * 503 + 389) % 30691;
            return old;
        }

        void write(int child, int place, int number) {
            if (runs == BOOK) {
                System.arraycopy(book, 4, book, 0, 4 * (BOOK - 1));
                runs--;
            }
            book[4 * runs] = year;
            book[4 * runs + 1] = child;
            book[4 * runs + 2] = place;
            book[4 * runs + 3] = number;
            runs++;
        }

        int written(int child) {
            int sum = 0;
            for (int i = 0; i < runs; i++) {
                if (child == NONE || book[4 * i + 1] == child) {
                    sum += book[4 * i + 3];
                }
            }
            return sum;
        }

        int kindAt(int place) {
            return kinds[Math.floorMod(place, PLACES)];
        }

        int barsFrom(int place, int n) {
            int bars = 0;
            for (int i = 0; i < n; i++) {
                if (kindAt(place + i) == BAR) {
                    bars++;
                }
            }
            return bars;
        }

        /** The PLACE of the n-th bar ahead of a spike and within the way of a RUN. */
        int barMet(int from, int n) {
            int met = 0;
            for (int i = 0; i < WAY; i++) {
                int kind = kindAt(from + i);
                if (kind == SPIKE) {
                    return NONE;
                }
                if (kind == BAR) {
                    met++;
                }
                if (met == n) {
                    return (from + i) % PLACES;
                }
            }
            return NONE;
        }

        int likeFrom(int place, int kind) {
            int like = 0;
            while (like < PLACES && kindAt(place + like) == kind) {
                like++;
            }
            return like;
        }

        int leastLikeTurn() {
            for (int turn = 1; turn < PLACES; turn++) {
                if (compareReadings(0, turn) == 0) {
                    return turn;
                }
            }
            return PLACES;
        }

        int leastReading() {
            int least = 0;
            for (int p = 1; p < PLACES; p++) {
                if (compareReadings(p, least) < 0) {
                    least = p;
                }
            }
            return least;
        }

        private int compareReadings(int a, int b) {
            for (int i = 0; i < PLACES; i++) {
                int order = Integer.compare(kindAt(a + i), kindAt(b + i));
                if (order != 0) {
                    return order;
                }
            }
            return 0;
        }

        int mirrorCount() {
            int mirrors = 0;
            for (int m = 0; m < PLACES; m++) {
                if (isMirror(m)) {
                    mirrors++;
                }
            }
            return mirrors;
        }

        private boolean isMirror(int m) {
            for (int p = 0; p < PLACES; p++) {
                if (kindAt(p) != kindAt(m - p)) {
                    return false;
                }
            }
            return true;
        }
    }

    /** The latest STEPS, each as the square was ahead of it; rows are made when first needed and used again. */
    static final class Steps {
        private final Square[] rows = new Square[STEPS];
        private int first = 0;
        int size = 0;

        void keep(Square now) {
            if (size == STEPS) {
                first = (first + 1) % STEPS;
                size--;
            }
            row(size).copy(now);
            size++;
        }

        boolean takeBack(Square now) {
            if (size == 0) {
                return false;
            }
            size--;
            now.copy(row(size));
            return true;
        }

        /** What is told stays when STEPS ahead of it are taken back, so it is told to them too. */
        void tellKind(int at, int kind) {
            for (int i = 0; i < size; i++) {
                row(i).kinds[at] = kind;
            }
        }

        void tellPaint(int at, int paint) {
            for (int i = 0; i < size; i++) {
                row(i).paints[at] = paint;
            }
        }

        void copy(Steps from) {
            first = 0;
            size = from.size;
            for (int i = 0; i < size; i++) {
                row(i).copy(from.row(i));
            }
        }

        private Square row(int i) {
            int at = (first + i) % STEPS;
            if (rows[at] == null) {
                rows[at] = new Square();
            }
            return rows[at];
        }
    }

    /** A short list of three numbers each: TELLINGS, and what was SAID. */
    static final class Triples {
        private final int[] parts;
        private final int limit;
        int size = 0;

        Triples(int limit) {
            this.limit = Math.max(limit, 0);
            parts = new int[3 * this.limit];
        }

        boolean put(int a, int b, int c) {
            if (size >= limit) {
                return false;
            }
            parts[3 * size] = a;
            parts[3 * size + 1] = b;
            parts[3 * size + 2] = c;
            size++;
            return true;
        }

        int part(int i, int which) {
            int at = 3 * i + which;
            return at >= 0 && at < parts.length ? parts[at] : 0;
        }

        void copy(Triples from) {
            size = Math.min(from.size, limit);
            System.arraycopy(from.parts, 0, parts, 0, Math.min(from.parts.length, parts.length));
        }
    }

    /** All that an IMAGE keeps. TEXTS themselves never change and fall away by BACK alone: their count is enough. */
    static final class State {
        final Square square = new Square();
        final Steps steps = new Steps();
        final Triples tellings = new Triples(TELLINGS);
        final Triples said = new Triples(SAID);
        final int[] values = new int[COUNTED + 1];
        final int[] strides = new int[CHILDREN];
        final int[] lucks = new int[CHILDREN];
        int children = 0;
        int texts = 0;
        int rule = NONE;

        State() {
            for (int n = 0; n <= COUNTED; n++) {
                values[n] = n;
            }
        }

        void copy(State from) {
            square.copy(from.square);
            steps.copy(from.steps);
            tellings.copy(from.tellings);
            said.copy(from.said);
            System.arraycopy(from.values, 0, values, 0, values.length);
            System.arraycopy(from.strides, 0, strides, 0, CHILDREN);
            System.arraycopy(from.lucks, 0, lucks, 0, CHILDREN);
            children = from.children;
            texts = from.texts;
            rule = from.rule;
        }

        boolean hasChild(int child) {
            return child >= 0 && child < children;
        }

        boolean hasText(int text) {
            return text >= 0 && text < texts;
        }

        int numberless() {
            int bits = 0;
            for (int child = 0; child < children; child++) {
                if (square.numbers[child] == NONE) {
                    bits |= 1 << child;
                }
            }
            return bits;
        }
    }

    /** A TEXT that was read: its laws (null without) as code for a Judge, and three numbers for each CLAUSE. */
    static final class Text {
        final int[] catches;
        final int[] paints;
        final int[] clauses;

        Text(int[] catches, int[] paints, int[] clauses) {
            this.catches = catches;
            this.paints = paints;
            this.clauses = clauses;
        }
    }

    /** The TOKENS of a tape, one by one; the constants number words and signs, and the same numbers are a law's code. */
    static final class Tokens {
        private static final String WORDS = "catches paints place kind paint at child luck run from cut add year round of kinds if then else end or and not count stride who ";
        private static final String SIGNS = "<>=#+-*/();";
        static final int CATCHES = 0;
        static final int PAINTS = 1;
        static final int PLACE = 2;
        static final int KIND = 3;
        static final int PAINT = 4;
        static final int AT = 5;
        static final int CHILD = 6;
        static final int LUCK = 7;
        static final int RUN = 8;
        static final int FROM = 9;
        static final int CUT = 10;
        static final int ADD = 11;
        static final int YEAR = 12;
        static final int ROUND = 13;
        static final int OF = 14;
        static final int KINDS = 15;
        static final int IF = 16;
        static final int THEN = 17;
        static final int ELSE = 18;
        static final int END = 19;
        static final int OR = 20;
        static final int AND = 21;
        static final int NOT = 22;
        static final int COUNT = 23;
        static final int STRIDE = 24;
        static final int WHO = 25;
        static final int LESS = 26;
        static final int MORE = 27;
        static final int EQUAL = 28;
        static final int UNLIKE = 29;
        static final int PLUS = 30;
        static final int MINUS = 31;
        static final int TIMES = 32;
        static final int OVER = 33;
        static final int LEFT = 34;
        static final int RIGHT = 35;
        static final int CLOSE = 36;
        static final int AT_MOST = 37;
        static final int AT_LEAST = 38;
        static final int NUMBER = 39;
        static final int FINISH = 40;
        static final int NOTHING = 41;

        // a TOKEN has a byte at least, and the end is one more
        private final int[] signs = new int[TAPE + 1];
        private final int[] starts = new int[TAPE + 1];
        private final int[] values = new int[TAPE + 1];
        private int[] bytes = new int[0];
        private int length = 0;
        private int next = 0;
        private int size = 0;
        private int index = 0;
        int sign = FINISH;
        int at = 0;
        int value = 0;

        void open(int[] tape, int count) {
            bytes = tape;
            length = Math.min(Math.min(Math.max(count, 0), tape.length), TAPE);
            next = 0;
            size = 0;
            for (int i = 0; i < TAPE && next < length; i++) {
                if (bytes[next] == 32 || bytes[next] == 10) {
                    next++;
                } else {
                    take();
                }
            }
            put(FINISH, length, 0);
            index = NONE;
            step();
        }

        void step() {
            if (index + 1 < size) {
                index++;
                sign = signs[index];
                at = starts[index];
                value = values[index];
            }
        }

        private void take() {
            int from = next;
            if (isLetter(bytes[from])) {
                put(takeWord(), from, 0);
            } else if (isDigit(bytes[from])) {
                put(NUMBER, from, takeNumber());
            } else {
                put(takeSign(), from, 0);
            }
        }

        private void put(int found, int from, int number) {
            if (size <= TAPE) {
                signs[size] = found;
                starts[size] = from;
                values[size] = number;
                size++;
            }
        }

        private int takeWord() {
            int from = next;
            while (next < length && isLetter(bytes[next])) {
                next++;
            }
            return wordOf(from, next);
        }

        private int takeNumber() {
            int number = 0;
            while (next < length && isDigit(bytes[next])) {
                // however many digits follow, what is too much stays too much
                number = Math.min(number * 10 + bytes[next] - '0', MOST_NUMBER + 1);
                next++;
            }
            return number;
        }

        private int takeSign() {
            int found = SIGNS.indexOf((char) bytes[next]);
            next++;
            if (found < 0) {
                return NOTHING;
            }
            int single = LESS + found;
            if ((single == LESS || single == MORE) && next < length && bytes[next] == '=') {
                next++;
                return single == LESS ? AT_MOST : AT_LEAST;
            }
            return single;
        }

        private int wordOf(int from, int to) {
            int word = 0;
            int start = 0;
            for (int i = 0; i < WORDS.length(); i++) {
                if (WORDS.charAt(i) == ' ') {
                    if (i - start == to - from && isSame(start, i, from)) {
                        return word;
                    }
                    word++;
                    start = i + 1;
                }
            }
            return NOTHING;
        }

        private boolean isSame(int start, int end, int from) {
            for (int i = start; i < end; i++) {
                int b = from + i - start;
                if (b >= length || bytes[b] != WORDS.charAt(i)) {
                    return false;
                }
            }
            return true;
        }

        private static boolean isLetter(int b) {
            return b >= 'a' && b <= 'z' || b >= 'A' && b <= 'Z';
        }

        private static boolean isDigit(int b) {
            return b >= '0' && b <= '9';
        }
    }

    /** Reads a tape as a TEXT up to its first FAULT. Whatever reads a part answers whether it was whole. */
    static final class Reader {
        private final Tokens tokens = new Tokens();
        // a TOKEN makes two orders of code at most, of two numbers each
        private final int[] code = new int[4 * TAPE];
        private final int[] clauses = new int[3 * CLAUSES];
        private int codeSize = 0;
        private int count = 0;
        private int open = 0;
        private boolean ofCatches = false;
        private int[] catches = null;
        private int[] paints = null;
        int fault = 0;
        int faultAt = NONE;

        Text read(int[] tape, int size) {
            count = 0;
            open = 0;
            catches = null;
            paints = null;
            fault = 0;
            faultAt = NONE;
            tokens.open(tape, size);
            for (int i = 0; i <= CLAUSES && tokens.sign != Tokens.FINISH; i++) {
                if (!clause()) {
                    return null;
                }
            }
            return new Text(catches, paints, Arrays.copyOf(clauses, 3 * count));
        }

        private boolean fail(int what) {
            fault = what;
            faultAt = tokens.at;
            return false;
        }

        private boolean expect(int sign) {
            if (tokens.sign != sign) {
                return fail(1);
            }
            tokens.step();
            return true;
        }

        private boolean clause() {
            int head = tokens.sign;
            if (!isHead(head)) {
                return fail(1);
            }
            if (head == Tokens.CATCHES && catches != null || head == Tokens.PAINTS && paints != null) {
                return fail(4);
            }
            if (count == CLAUSES) {
                return fail(6);
            }
            tokens.step();
            clauses[3 * count] = head;
            boolean whole = isLaw(head) ? law(head) : deed(head);
            count++;
            return whole && expect(Tokens.CLOSE);
        }

        private static boolean isLaw(int head) {
            return head == Tokens.CATCHES || head == Tokens.PAINTS;
        }

        private static boolean isHead(int sign) {
            switch (sign) {
                case Tokens.CATCHES:
                case Tokens.PAINTS:
                case Tokens.PLACE:
                case Tokens.PAINT:
                case Tokens.CHILD:
                case Tokens.RUN:
                case Tokens.CUT:
                case Tokens.ADD:
                case Tokens.YEAR:
                    return true;
                default:
                    return false;
            }
        }

        private boolean law(int head) {
            codeSize = 0;
            ofCatches = head == Tokens.CATCHES;
            if (!sum()) {
                return false;
            }
            int[] made = Arrays.copyOf(code, codeSize);
            if (ofCatches) {
                catches = made;
            } else {
                paints = made;
            }
            return true;
        }

        private boolean deed(int head) {
            switch (head) {
                case Tokens.PLACE:
                    return number(1, 0, PLACES - 1) && expect(Tokens.KIND) && number(2, GAP, SPIKE);
                case Tokens.PAINT:
                    return number(1, 0, MOST_PAINT) && expect(Tokens.AT) && number(2, 0, PLACES - 1);
                case Tokens.CHILD:
                    return number(1, 1, 9) && expect(Tokens.LUCK) && number(2, 0, 9);
                case Tokens.RUN:
                    return number(1, 0, CHILDREN - 1) && expect(Tokens.FROM) && number(2, 0, PLACES - 1);
                case Tokens.YEAR:
                    return number(1, 1, MOST_YEARS);
                default:
                    return number(1, 0, PLACES - 1);
            }
        }

        private boolean number(int part, int least, int most) {
            if (tokens.sign != Tokens.NUMBER) {
                return fail(1);
            }
            if (tokens.value < least || tokens.value > most) {
                return fail(2);
            }
            clauses[3 * count + part] = tokens.value;
            tokens.step();
            return true;
        }

        private boolean emit(int order, int value) {
            if (codeSize + 2 > code.length) {
                return fail(1);
            }
            code[codeSize] = order;
            code[codeSize + 1] = value;
            codeSize += 2;
            return true;
        }

        private boolean sum() {
            boolean whole = product();
            for (int i = 0; whole && i < TAPE && (tokens.sign == Tokens.PLUS || tokens.sign == Tokens.MINUS); i++) {
                int order = tokens.sign;
                tokens.step();
                whole = product() && emit(order, 0);
            }
            return whole;
        }

        private boolean product() {
            boolean whole = one();
            for (int i = 0; whole && i < TAPE && (tokens.sign == Tokens.TIMES || tokens.sign == Tokens.OVER); i++) {
                int order = tokens.sign;
                tokens.step();
                whole = one() && emit(order, 0);
            }
            return whole;
        }

        private boolean one() {
            int sign = tokens.sign;
            switch (sign) {
                case Tokens.NUMBER:
                    return numeral();
                case Tokens.YEAR:
                case Tokens.PLACE:
                case Tokens.KIND:
                case Tokens.PAINT:
                    return name(true);
                case Tokens.COUNT:
                case Tokens.STRIDE:
                case Tokens.LUCK:
                case Tokens.WHO:
                    return name(ofCatches);
                case Tokens.LEFT:
                case Tokens.MINUS:
                case Tokens.ROUND:
                case Tokens.KINDS:
                case Tokens.IF:
                    return opening() && opened(sign) && closing();
                default:
                    return fail(1);
            }
        }

        private boolean numeral() {
            if (tokens.value > MOST_NUMBER) {
                return fail(2);
            }
            boolean whole = emit(Tokens.NUMBER, tokens.value);
            tokens.step();
            return whole;
        }

        private boolean name(boolean isOfClause) {
            if (!isOfClause) {
                return fail(5);
            }
            boolean whole = emit(tokens.sign, 0);
            tokens.step();
            return whole;
        }

        private boolean opening() {
            if (open >= DEEPEST) {
                return fail(3);
            }
            open++;
            tokens.step();
            return true;
        }

        private boolean closing() {
            open--;
            return true;
        }

        private boolean opened(int sign) {
            switch (sign) {
                case Tokens.LEFT:
                    return sum() && expect(Tokens.RIGHT);
                case Tokens.MINUS:
                    return emit(Tokens.NUMBER, 0) && one() && emit(Tokens.MINUS, 0);
                case Tokens.ROUND:
                    return one() && expect(Tokens.OF) && one() && emit(Tokens.ROUND, 0);
                case Tokens.KINDS:
                    return one() && emit(Tokens.KINDS, 0);
                default:
                    return choice();
            }
        }

        /** The IF order goes to behind the ELSE order where the question is not so, ELSE to behind all. */
        private boolean choice() {
            if (!either() || !expect(Tokens.THEN)) {
                return false;
            }
            int test = codeSize;
            if (!emit(Tokens.IF, 0) || !sum() || !expect(Tokens.ELSE)) {
                return false;
            }
            int skip = codeSize;
            if (!emit(Tokens.ELSE, 0)) {
                return false;
            }
            code[test + 1] = codeSize;
            if (!sum() || !expect(Tokens.END)) {
                return false;
            }
            code[skip + 1] = codeSize;
            return true;
        }

        private boolean either() {
            boolean whole = both();
            for (int i = 0; whole && i < TAPE && tokens.sign == Tokens.OR; i++) {
                tokens.step();
                whole = both() && emit(Tokens.OR, 0);
            }
            return whole;
        }

        private boolean both() {
            boolean whole = question();
            for (int i = 0; whole && i < TAPE && tokens.sign == Tokens.AND; i++) {
                tokens.step();
                whole = question() && emit(Tokens.AND, 0);
            }
            return whole;
        }

        private boolean question() {
            if (tokens.sign == Tokens.NOT) {
                return opening() && question() && emit(Tokens.NOT, 0) && closing();
            }
            if (!sum()) {
                return false;
            }
            int order = tokens.sign;
            if (!isComparison(order)) {
                return fail(1);
            }
            tokens.step();
            return sum() && emit(order, 0);
        }

        private static boolean isComparison(int sign) {
            return sign >= Tokens.LESS && sign <= Tokens.UNLIKE || sign == Tokens.AT_MOST || sign == Tokens.AT_LEAST;
        }
    }

    /** Asks the laws. Their code works on a stack, so that no depth of calls follows from a TEXT's length. */
    static final class Judge {
        private static final int LIMIT = 1000000;
        // five values wait at most in each of the nine levels that a law can have
        private static final int STACK = 64;
        private final State state;
        private final Text[] texts;
        private final int[] stack = new int[STACK];
        private Square square;
        private int place = 0;
        private int count = 0;
        private int who = 0;
        private int stride = 0;
        private int luck = 0;

        Judge(State state, Text[] texts) {
            this.state = state;
            this.texts = texts;
            this.square = state.square;
        }

        int oddsOf(Square asked, int text, int child, int at, int counted) {
            Text rule = textOf(text);
            if (rule == null || rule.catches == null || !state.hasChild(child)) {
                return 1;
            }
            square = asked;
            place = at;
            count = counted;
            who = child;
            stride = state.strides[child];
            luck = state.lucks[child];
            return Math.min(Math.max(valueOf(rule.catches), 0), SURE);
        }

        int paintsOf(Square asked, int at) {
            Text rule = textOf(state.rule);
            if (rule == null || rule.paints == null) {
                return 1;
            }
            square = asked;
            place = at;
            return Math.min(Math.max(valueOf(rule.paints), 0), MOST_PAINT);
        }

        boolean allSaidBy(int text) {
            Triples said = state.said;
            for (int i = 0; i < said.size; i++) {
                if (oddsOf(state.square, text, said.part(i, 0), said.part(i, 1), 1) != said.part(i, 2)) {
                    return false;
                }
            }
            return true;
        }

        private Text textOf(int text) {
            return state.hasText(text) && text < texts.length ? texts[text] : null;
        }

        private int valueOf(int[] code) {
            int top = 0;
            int at = 0;
            while (at + 1 < code.length) {
                int order = code[at];
                int value = code[at + 1];
                at += 2;
                if (order == Tokens.ELSE) {
                    at = Math.max(at, value);
                } else if (isLeaf(order)) {
                    if (top < STACK) {
                        stack[top] = order == Tokens.NUMBER ? value : named(order);
                        top++;
                    }
                } else if (isOfOne(order)) {
                    if (top > 0) {
                        stack[top - 1] = ofOne(order, stack[top - 1]);
                    }
                } else if (order == Tokens.IF) {
                    if (top > 0) {
                        top--;
                        at = stack[top] == 0 ? Math.max(at, value) : at;
                    }
                } else if (top > 1) {
                    top--;
                    stack[top - 1] = within(ofTwo(order, stack[top - 1], stack[top]));
                }
            }
            return top > 0 ? stack[0] : 0;
        }

        private static boolean isLeaf(int order) {
            return order == Tokens.NUMBER || order == Tokens.YEAR || order == Tokens.LUCK
                || order >= Tokens.PLACE && order <= Tokens.PAINT || order >= Tokens.COUNT && order <= Tokens.WHO;
        }

        private static boolean isOfOne(int order) {
            return order == Tokens.NOT || order == Tokens.KINDS;
        }

        private int named(int name) {
            switch (name) {
                case Tokens.YEAR: return square.year;
                case Tokens.PLACE: return place;
                case Tokens.KIND: return place >= 0 && place < PLACES ? square.kinds[place] : 0;
                case Tokens.PAINT: return place >= 0 && place < PLACES ? square.paints[place] : 0;
                case Tokens.COUNT: return count;
                case Tokens.STRIDE: return stride;
                case Tokens.LUCK: return luck;
                default: return who;
            }
        }

        private int ofOne(int order, int value) {
            if (order == Tokens.NOT) {
                return value == 0 ? 1 : 0;
            }
            return value >= 0 && value < PLACES ? square.kinds[value] : 0;
        }

        private static long ofTwo(int order, long left, long right) {
            switch (order) {
                case Tokens.PLUS: return left + right;
                case Tokens.MINUS: return left - right;
                case Tokens.TIMES: return left * right;
                case Tokens.OVER: return right == 0 ? 0 : left / right;
                case Tokens.ROUND: return right <= 0 ? 0 : (left % right + right) % right;
                case Tokens.LESS: return left < right ? 1 : 0;
                case Tokens.AT_MOST: return left <= right ? 1 : 0;
                case Tokens.MORE: return left > right ? 1 : 0;
                case Tokens.AT_LEAST: return left >= right ? 1 : 0;
                case Tokens.EQUAL: return left == right ? 1 : 0;
                case Tokens.UNLIKE: return left != right ? 1 : 0;
                case Tokens.AND: return left != 0 && right != 0 ? 1 : 0;
                default: return left != 0 || right != 0 ? 1 : 0;
            }
        }

        private static int within(long value) {
            long low = value < -LIMIT ? -LIMIT : value;
            return (int) (low > LIMIT ? LIMIT : low);
        }
    }

    /** What is told and done, by hand, by a TEXT and by AGES. */
    static final class Play {
        private final State state;
        private final Judge judge;

        Play(State state, Judge judge) {
            this.state = state;
            this.judge = judge;
        }

        boolean tellKind(int at, int kind) {
            if (!isPlace(at) || kind < GAP || kind > SPIKE) {
                return false;
            }
            state.square.kinds[at] = kind;
            state.steps.tellKind(at, kind);
            return true;
        }

        boolean tellPaint(int at, int paint) {
            if (!isPlace(at) || paint < 0 || paint > MOST_PAINT) {
                return false;
            }
            state.square.paints[at] = paint;
            state.steps.tellPaint(at, paint);
            return true;
        }

        int tellChild(int stride, int luck) {
            if (stride < 1 || stride > 9 || luck < 0 || luck > 9 || state.children >= CHILDREN) {
                return NONE;
            }
            state.strides[state.children] = stride;
            state.lucks[state.children] = luck;
            state.children++;
            return state.children - 1;
        }

        int runNow(int child, int from) {
            if (!canRun(state.square, child) || !isPlace(from)) {
                return NONE;
            }
            state.steps.keep(state.square);
            return runFrom(state.square, child, from);
        }

        boolean cutNow(int at) {
            if (!isPlace(at) || state.square.kinds[at] != BAR) {
                return false;
            }
            state.steps.keep(state.square);
            cutAt(state.square, at);
            return true;
        }

        boolean addNow(int at) {
            if (!isPlace(at) || state.square.kinds[at] != GAP) {
                return false;
            }
            state.steps.keep(state.square);
            addAt(state.square, at);
            return true;
        }

        /** So many of n YEARS as can pass do; answers how many CHILDREN came by a NUMBER. */
        int yearsNow(int n) {
            int came = 0;
            for (int i = 0; i < n && state.square.year < LAST_YEAR; i++) {
                state.steps.keep(state.square);
                came += passYear(state.square);
            }
            return came;
        }

        /** A CLAUSE of a TEXT, as by hand; laws are nothing here. Answers whether all of it could be. */
        boolean deed(int head, int a, int b) {
            int years = LAST_YEAR - state.square.year;
            switch (head) {
                case Tokens.PLACE: return tellKind(a, b);
                case Tokens.PAINT: return tellPaint(b, a);
                case Tokens.CHILD: return tellChild(a, b) != NONE;
                case Tokens.RUN: return runNow(a, b) != NONE;
                case Tokens.CUT: return cutNow(a);
                case Tokens.ADD: return addNow(a);
                case Tokens.YEAR:
                    yearsNow(a);
                    return a <= years;
                default: return true;
            }
        }

        void agesNow(int seed, int n) {
            Square square = state.square;
            state.steps.keep(square);
            square.x = seed * 2 + FIRST_X;
            for (int i = 0; i < n; i++) {
                age(square, square.drawn());
            }
        }

        private void age(Square square, int x) {
            int place = x / 6 % PLACES;
            int what = x % 6;
            if (what <= 1) {
                int child = state.children > 0 ? x % state.children : NONE;
                if (canRun(square, child)) {
                    runFrom(square, child, place);
                }
            } else if (what == 2) {
                cutAt(square, place);
            } else if (what == 3) {
                addAt(square, place);
            } else if (square.year < LAST_YEAR) {
                passYear(square);
            }
        }

        private boolean canRun(Square square, int child) {
            return state.hasChild(child) && square.numbers[child] == NONE;
        }

        private int runFrom(Square square, int child, int from) {
            int count = 0;
            for (int i = 0; i < WAY; i++) {
                int place = (from + i) % PLACES;
                int kind = square.kinds[place];
                if (kind == SPIKE) {
                    break;
                }
                if (kind == BAR) {
                    count++;
                    if (square.drawn() % SURE < judge.oddsOf(square, state.rule, child, place, count)) {
                        break;
                    }
                }
            }
            square.numbers[child] = count;
            square.write(child, from, count);
            return count;
        }

        private static void cutAt(Square square, int at) {
            if (square.kinds[at] == BAR) {
                square.kinds[at] = GAP;
            }
        }

        private static void addAt(Square square, int at) {
            if (square.kinds[at] == GAP) {
                square.kinds[at] = BAR;
                square.paints[at] = 0;
            }
        }

        int passYear(Square square) {
            int came = 0;
            for (int child = 0; child < state.children; child++) {
                if (canRun(square, child)) {
                    runFrom(square, child, square.drawn() % PLACES);
                    came++;
                }
            }
            for (int p = 0; p < PLACES; p++) {
                if (square.kinds[p] == BAR) {
                    square.paints[p] = Math.min(square.paints[p] + judge.paintsOf(square, p), MOST_PAINT);
                }
            }
            square.year++;
            return came;
        }
    }

    /** How likely counts are, and what they are worth: look first, then ask; fractions are over powers of ten. */
    static final class Odds {
        private final State state;
        private final Judge judge;
        private final int[] free = new int[COUNTED];
        int met = 0;

        Odds(State state, Judge judge) {
            this.state = state;
            this.judge = judge;
        }

        /** Counts the bars ahead; of the first twelve, free is how many of ten draws don't catch. */
        void look(int child, int from) {
            Square square = state.square;
            met = 0;
            for (int i = 0; i < WAY; i++) {
                int place = (from + i) % PLACES;
                if (square.kinds[place] == SPIKE) {
                    return;
                }
                if (square.kinds[place] == BAR) {
                    if (met < COUNTED) {
                        free[met] = SURE - judge.oddsOf(square, state.rule, child, place, met + 1);
                    }
                    met++;
                }
            }
        }

        /** That just n are counted, over 10 to the n. */
        long chance(int n) {
            if (n > met || n > COUNTED) {
                return 0;
            }
            if (n <= 0) {
                return met == 0 ? 1 : 0;
            }
            long upper = 1;
            for (int i = 0; i < n - 1; i++) {
                upper *= free[i];
            }
            // the last bar that there is counts whether it catches or not
            return upper * (n == met ? SURE : SURE - free[n - 1]);
        }

        int startFor(int child, int n) {
            long most = 0;
            int place = NONE;
            for (int p = 0; p < PLACES; p++) {
                look(child, p);
                if (chance(n) > most) {
                    most = chance(n);
                    place = p;
                }
            }
            return place;
        }

        int cutFor(int child, int from, int n) {
            int[] kinds = state.square.kinds;
            look(child, from);
            long most = chance(n);
            int place = NONE;
            for (int p = 0; p < PLACES; p++) {
                if (kinds[p] == BAR) {
                    kinds[p] = GAP;
                    look(child, from);
                    kinds[p] = BAR;
                    if (chance(n) > most) {
                        most = chance(n);
                        place = p;
                    }
                }
            }
            return place;
        }

        /** Over 10 to the met; twelve bars at most. The k-th bar adds how likely it is that it is come to. */
        long meanCount() {
            long upper = 0;
            long come = ten(met);
            for (int i = 0; i < met && i < COUNTED; i++) {
                upper += come;
                come = come / SURE * free[i];
            }
            return upper;
        }

        int last() {
            return Math.min(met, COUNTED);
        }

        /** The most on the mean, having counted k, over 10 to the last less k. */
        long worthFrom(int k) {
            int at = last();
            long most = state.values[at];
            while (at > k && at > 0) {
                at--;
                most = Math.max(state.values[at] * ten(last() - at), most * free[at]);
            }
            return most;
        }

        boolean onIsMore(int k) {
            if (k < 0 || k >= last()) {
                return false;
            }
            return worthFrom(k + 1) * free[k] > state.values[k] * ten(last() - k);
        }

        int bestStart(int child) {
            long most = NONE;
            int place = NONE;
            for (int p = 0; p < PLACES; p++) {
                look(child, p);
                long worth = worthFrom(0) * ten(COUNTED - last());
                if (worth > most) {
                    most = worth;
                    place = p;
                }
            }
            return place;
        }

        static long ten(int n) {
            long power = 1;
            for (int i = 0; i < n && i < 18; i++) {
                power *= 10;
            }
            return power;
        }

        /** The upper or the lower number of the fraction in lowest terms. */
        static long lowest(long upper, long lower, boolean low) {
            long a = upper;
            long b = lower;
            for (int i = 0; i < 200 && b != 0; i++) {
                long left = a % b;
                a = b;
                b = left;
            }
            if (a == 0) {
                return NONE;
            }
            return low ? lower / a : upper / a;
        }
    }

    /** What nobody knows: which PLACES are bars, and which one sings. */
    static final class Riddles {
        private static final int ALL = (1 << HIDDEN) - 1;
        private final int[] ways = new int[ALL + 1];
        private final int[] left = new int[HIDDEN + 1];
        private final int[] costs = new int[PLACES * PLACES];
        private final int[] tries = new int[PLACES * PLACES];
        int size = 0;
        int inAll = 0;
        private int inSome = 0;

        void gather(Triples tellings, int err) {
            size = 0;
            inAll = ALL;
            inSome = 0;
            for (int way = 0; way <= ALL; way++) {
                if (isWay(tellings, err, way)) {
                    ways[size] = way;
                    size++;
                    inAll &= way;
                    inSome |= way;
                }
            }
        }

        int inNone() {
            return ALL & ~inSome;
        }

        private static boolean isWay(Triples tellings, int err, int way) {
            for (int i = 0; i < tellings.size; i++) {
                int bars = barsOf(way, tellings.part(i, 0), tellings.part(i, 1));
                if (Math.abs(bars - tellings.part(i, 2)) > err) {
                    return false;
                }
            }
            return true;
        }

        private static int barsOf(int way, int from, int n) {
            return Integer.bitCount(way >> from & (1 << n) - 1);
        }

        int whereToRun() {
            if (size <= 1) {
                return NONE;
            }
            int fewest = size + 1;
            int where = NONE;
            for (int from = 0; from < HIDDEN; from++) {
                for (int n = 1; n <= HIDDEN - from; n++) {
                    int most = mostLeft(from, n, fewest);
                    if (most < fewest) {
                        fewest = most;
                        where = 100 * from + n;
                    }
                }
            }
            return where;
        }

        /** The most ways that can be left; no more than enough is looked for. */
        private int mostLeft(int from, int n, int enough) {
            Arrays.fill(left, 0);
            int most = 0;
            for (int i = 0; i < size && most < enough; i++) {
                int bars = barsOf(ways[i], from, n);
                left[bars]++;
                most = Math.max(most, left[bars]);
            }
            return most;
        }

        /** Costs and first tries of all a .. b within these, the short ones first. */
        void weigh(int[] paints, int a, int b) {
            for (int length = 0; length <= b - a; length++) {
                for (int from = a; from + length <= b; from++) {
                    weighOne(paints, from, from + length);
                }
            }
        }

        private void weighOne(int[] paints, int from, int to) {
            int least = 0;
            int first = NONE;
            for (int p = from; p < to; p++) {
                int worst = paints[p] + 1 + Math.max(cost(from, p), cost(p + 1, to));
                if (first == NONE || worst < least) {
                    least = worst;
                    first = p;
                }
            }
            costs[PLACES * from + to] = least;
            tries[PLACES * from + to] = first;
        }

        int cost(int a, int b) {
            return costs[PLACES * a + b];
        }

        int firstTry(int a, int b) {
            return tries[PLACES * a + b];
        }
    }
}
