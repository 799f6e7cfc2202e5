/** Promises 1 to 22, sentence by sentence: what is told, done and there. */
final class EdgesOfDeeds {
    private static final int[] FAR = {Rings.MIN, Rings.MAX};

    private EdgesOfDeeds() {
    }

    static void all(Edges e) {
        newObject(e);
        barAndPaint(e);
        child(e);
        feed(e);
        end(e);
        text(e);
        fault(e);
        by(e);
        run(e);
        cut(e);
        add(e);
        year(e);
        played(e);
        ages(e);
        undo(e);
        of(e);
        ofBar(e);
        catches(e);
        is(e);
        book(e);
        foretold(e);
    }

    private static void newObject(Edges e) {
        e.edge("Promise 1", "Nobody; THE IMAGE is this.", c -> {
            RailingsCount x = new RailingsCount();
            String ahead = Rings.seen(x);
            c.due("nobody", x.about(0), 0);
            c.due("nothing changed", x.changed(), 0);
            c.due("back at once", x.back(), 0);
            c.due("as it was", Rings.seen(x), ahead);
            x.child(1, 1);
            x.cut(3);
            x.bar(4, 3);
            x.year(1);
            Check.rule(x, "paints 9;");
            x.fault(0);
            c.due("back", x.back(), 0);
            c.due("nobody again", x.about(0), 0);
            c.due("no text", x.about(1), 0);
            c.due("no step", x.undo(), -1);
            c.due("all bars", x.is(2), 30);
            c.due("X", x.is(1), 263);
            x.child(1, 1);
            c.due("who comes then has no NUMBER", x.of(0, 2), -1);
        });
    }

    private static void barAndPaint(Edges e) {
        e.edge("Promise 2", "KIND told: true. False for others.", c -> {
            RailingsCount x = new RailingsCount();
            c.due("bar(0, 0)", x.bar(0, 0), true);
            c.due("bar(29, 3)", x.bar(29, 3), true);
            c.due("the same again", x.bar(29, 3), true);
            String ahead = Rings.seen(x);
            for (int p : Rings.NO_PLACES) {
                c.due("at " + p, x.bar(p, 1), false);
            }
            for (int kind : new int[] {-1, 4, Rings.MIN, Rings.MAX}) {
                c.due("kind " + kind, x.bar(5, kind), false);
            }
            c.due("both", x.bar(30, 4), false);
            c.due("nothing is done", Rings.seen(x), ahead);
        });
        e.edge("Promise 3", "PAINT told: true. False for others.", c -> {
            RailingsCount x = new RailingsCount();
            c.due("paint(0, 9)", x.paint(0, 9), true);
            c.due("paint(29, 0)", x.paint(29, 0), true);
            String ahead = Rings.seen(x);
            for (int p : Rings.NO_PLACES) {
                c.due("at " + p, x.paint(p, 1), false);
            }
            for (int paint : new int[] {-1, 10, Rings.MIN, Rings.MAX}) {
                c.due("paint " + paint, x.paint(5, paint), false);
            }
            c.due("nothing is done", Rings.seen(x), ahead);
        });
    }

    private static void child(Edges e) {
        e.edge("Promise 4", "A CHILD: its number among them.", c -> {
            RailingsCount x = new RailingsCount();
            c.due("the first", x.child(1, 0), 0);
            c.due("the second", x.child(9, 9), 1);
        });
        e.edge("Promise 4", "NONE for others, or if there are 7.", c -> {
            RailingsCount x = new RailingsCount();
            for (int stride : new int[] {-1, 0, 10, Rings.MIN, Rings.MAX}) {
                c.due("stride " + stride, x.child(stride, 1), -1);
            }
            for (int luck : new int[] {-1, 10, Rings.MIN, Rings.MAX}) {
                c.due("luck " + luck, x.child(1, luck), -1);
            }
            for (int i = 0; i < 7; i++) {
                c.due("child " + i, x.child(1, 1), i);
            }
            c.due("there are 7", x.child(1, 1), -1);
            c.due("7 yet", x.about(0), 7);
        });
    }

    private static void feed(Edges e) {
        e.edge("Promise 5", "Twenty bytes come behind the tape, the highest of a first: how many it has.", c -> {
            RailingsCount x = new RailingsCount();
            // "cut 1;cut 2;cut 3;cu" and "t 4;" with blanks: the order of all twenty is seen
            c.due("twenty", x.feed(0x63757420, 0x313b6375, 0x7420323b, 0x63757420, 0x333b6375), 20);
            c.due("forty", x.feed(0x7420343b, 0x20202020, 0x0a0a0a0a, 0x20202020, 0x20202020), 40);
            c.due("a text", x.text(), 0);
            x.played(0);
            c.due("1 to 4", x.changed(), 2 | 4 | 8 | 16);
            RailingsCount y = new RailingsCount();
            y.feed(0x63757420, 0x31ff3b20, -1, 0, 0);
            c.due("a byte above 127 is none", y.text(), -1);
            c.due("at it", y.fault(1), 5);
            y.feed(0x80000000, 0, 0, 0, 0);
            y.text();
            c.due("the highest bit too", y.fault(1), 0);
        });
        e.edge("Promise 5", "NONE, and none come, if there would be more than 300.", c -> {
            RailingsCount x = new RailingsCount();
            for (int i = 1; i <= 15; i++) {
                c.due("feed " + i, x.feed(0, 0, 0, 0, 0), 20 * i);
            }
            c.due("300 are there", x.feed(0, 0, 0, 0, 0), -1);
            c.due("none came", x.about(6), 300);
            x.end(281);
            c.due("301 would be", x.feed(0, 0, 0, 0, 0), -1);
            c.due("none came", x.about(6), 281);
            x.end(280);
            c.due("300 just", x.feed(0, 0, 0, 0, 0), 300);
        });
    }

    private static void end(Edges e) {
        e.edge("Promise 6", "The tape has its first n bytes alone: n.", c -> {
            RailingsCount x = new RailingsCount();
            c.due("nothing of nothing", x.end(0), 0);
            x.feed(0x63757420, 0x313b2121, 0, 0, 0);
            c.due("all", x.end(20), 20);
            c.due("six", x.end(6), 6);
            c.due("has six", x.about(6), 6);
            x.feed(0x61646420, 0x313b2121, 0, 0, 0);
            c.due("what comes then is behind them", x.end(12), 12);
            c.due("a text", x.text(), 0);
            c.due("of both", x.played(0), -1);
            c.due("cut and added", x.about(3), 2);
            x.feed(0, 0, 0, 0, 0);
            c.due("none", x.end(0), 0);
            c.due("has none", x.about(6), 0);
            Check.tape(x, "cuts 30;");
            x.end(3);
            x.text();
            c.due("a word ends with them", x.fault(1), 3);
            Check.tape(x, "cut 30;");
            x.end(5);
            x.text();
            c.due("a number ends with them", x.fault(1), 5);
        });
        e.edge("Promise 6", "NONE, and nothing is done, if it has not so many, or n is below 0.", c -> {
            RailingsCount x = new RailingsCount();
            c.due("1 of none", x.end(1), -1);
            c.due("-1 of none", x.end(-1), -1);
            x.feed(0, 0, 0, 0, 0);
            for (int n : new int[] {21, 22, 300, 301, -1, -2, Rings.MIN, Rings.MAX}) {
                c.due("end(" + n + ")", x.end(n), -1);
                c.due("nothing is done", x.about(6), 20);
            }
        });
    }

    private static void text(Edges e) {
        e.edge("Promise 7", "The tape (empty then) is a TEXT: its number.", c -> {
            RailingsCount x = new RailingsCount();
            Check.tape(x, "cut 1;");
            c.due("the first", x.text(), 0);
            c.due("empty then", x.about(6), 0);
            c.due("an empty one is a text", x.text(), 1);
            c.due("two", x.about(1), 2);
        });
        e.edge("Promise 7", "NONE: it has a FAULT; or (the tape stays) there are 4.", c -> {
            RailingsCount x = new RailingsCount();
            c.due("a fault", Check.read(x, "cut 1"), -1);
            c.due("the tape is empty", x.about(6), 0);
            c.due("no text", x.about(1), 0);
            c.due("its number is free yet", Check.read(x, "paints 4;"), 0);
            for (int i = 1; i < 4; i++) {
                c.due("text " + i, Check.read(x, ""), i);
            }
            Check.tape(x, "cut 1");
            c.due("there are 4", x.text(), -1);
            c.due("the tape stays", x.about(6), 5);
            c.due("4 yet", x.about(1), 4);
            c.due("nothing was read", x.fault(0), 0);
        });
    }

    private static void fault(Edges e) {
        e.edge("Promise 8", "Of the latest text that was read: 0 its FAULT (0 without), 1 its place (NONE without).", c -> {
            RailingsCount x = new RailingsCount();
            Check.read(x, "cut 30;");
            c.due("fault", x.fault(0), 2);
            c.due("place", x.fault(1), 4);
            Check.tape(x, "!");
            c.due("not read yet", x.fault(0), 2);
            x.text();
            c.due("fault", x.fault(0), 1);
            c.due("place 0", x.fault(1), 0);
            Check.read(x, "cut 1;");
            c.due("without", x.fault(0), 0);
            c.due("without", x.fault(1), -1);
        });
        e.edge("Promise 8", "NONE for others, and ahead of any.", c -> {
            RailingsCount x = new RailingsCount();
            c.due("ahead of any, 0", x.fault(0), -1);
            c.due("ahead of any, 1", x.fault(1), -1);
            Check.read(x, "cut 30;");
            for (int what : new int[] {-1, 2, 3, Rings.MIN, Rings.MAX}) {
                c.due("fault(" + what + ")", x.fault(what), -1);
            }
        });
    }

    private static void by(Edges e) {
        e.edge("Promise 9", "THE TEXT (NONE: none): true. False for others.", c -> {
            RailingsCount x = new RailingsCount();
            c.due("none, at first", x.by(-1), true);
            c.due("no text 0", x.by(0), false);
            Check.read(x, "paints 5;");
            Check.read(x, "cut");
            c.due("text 0", x.by(0), true);
            c.due("it rules", x.ofBar(0, 2), 5);
            for (int text : new int[] {1, 2, 3, 4, -2, Rings.MIN, Rings.MAX}) {
                c.due("by(" + text + ")", x.by(text), false);
                c.due("as it was", x.about(2), 0);
            }
            c.due("none", x.by(-1), true);
            c.due("none rules", x.about(2), -1);
            for (int i = 1; i < 4; i++) {
                Check.read(x, "paints " + i + ";");
                c.due("text " + i, x.by(i), true);
                c.due("rules", x.ofBar(0, 2), i);
            }
        });
    }

    private static void run(Edges e) {
        e.edge("Promise 10", "RUN: its NUMBER. NONE, if it can't be, and for others.", c -> {
            RailingsCount x = Rings.railing(3, "catches 0;");
            x.child(1, 1);
            c.due("nobody", new RailingsCount().run(0, 0), -1);
            c.due("its NUMBER", x.run(0, 0), 3);
            c.due("a NUMBER of 0", x.run(1, 3), 0);
            x.child(1, 1);
            String ahead = Rings.seen(x);
            c.due("it has one", x.run(0, 0), -1);
            c.due("it has 0", x.run(1, 0), -1);
            for (int child : Rings.noChildren(3)) {
                c.due("child " + child, x.run(child, 0), -1);
            }
            c.due("child -1", x.run(-1, 0), -1);
            for (int p : Rings.NO_PLACES) {
                c.due("from " + p, x.run(2, p), -1);
            }
            c.due("nothing is done", Rings.seen(x), ahead);
            c.due("from the last place", x.run(2, 29), 4);
        });
    }

    private static void cut(Edges e) {
        e.edge("Promise 11", "CUT: true. False, if it can't be, and for others.", c -> {
            RailingsCount x = new RailingsCount();
            c.due("0", x.cut(0), true);
            c.due("29", x.cut(29), true);
            x.bar(5, 2);
            x.bar(6, 3);
            String ahead = Rings.seen(x);
            for (int p : new int[] {0, 29, 5, 6}) {
                c.due("no bar at " + p, x.cut(p), false);
            }
            for (int p : Rings.NO_PLACES) {
                c.due("at " + p, x.cut(p), false);
            }
            c.due("nothing is done", Rings.seen(x), ahead);
        });
    }

    private static void add(Edges e) {
        e.edge("Promise 12", "ADDED: true. False, if it can't be, and for others.", c -> {
            RailingsCount x = new RailingsCount();
            x.bar(0, 0);
            x.bar(29, 0);
            x.bar(5, 2);
            x.bar(6, 3);
            c.due("0", x.add(0), true);
            c.due("29", x.add(29), true);
            String ahead = Rings.seen(x);
            for (int p : new int[] {0, 29, 5, 6}) {
                c.due("no gap at " + p, x.add(p), false);
            }
            for (int p : Rings.NO_PLACES) {
                c.due("at " + p, x.add(p), false);
            }
            c.due("nothing is done", Rings.seen(x), ahead);
        });
    }

    private static void year(Edges e) {
        e.edge("Promise 13", "YEARS pass (1 .. 60): how many CHILDREN came by a NUMBER in them.", c -> {
            RailingsCount x = Rings.withChildren(7);
            x.run(3, 3);
            c.due("six", x.year(1), 6);
            c.due("none is left", x.year(60), 0);
            c.due("61 years", x.is(0), 61);
        });
        e.edge("Promise 13", "NONE for others, or beyond 9999 (nothing is done then).", c -> {
            RailingsCount x = Rings.withChildren(1);
            String ahead = Rings.seen(x);
            for (int n : new int[] {0, -1, 61, 62, Rings.MIN, Rings.MAX}) {
                c.due("year(" + n + ")", x.year(n), -1);
            }
            c.due("nothing is done", Rings.seen(x), ahead);
            RailingsCount y = Rings.inYear(9940);
            y.child(1, 1);
            ahead = Rings.seen(y);
            c.due("10000", y.year(60), -1);
            c.due("nothing is done", Rings.seen(y), ahead);
            c.due("9999", y.year(59), 1);
            c.due("YEAR", y.is(0), 9999);
            c.due("no more", y.year(1), -1);
        });
    }

    private static void played(Edges e) {
        e.edge("Promise 14", "PLAYED by a TEXT: NONE: all is done; else the number of the CLAUSE that can't be.", c -> {
            RailingsCount x = new RailingsCount();
            Check.read(x, "cut 1;add 1;");
            Check.read(x, "add 1;");
            Check.read(x, "");
            c.due("all is done", x.played(0), -1);
            c.due("the first can't be", x.played(1), 0);
            c.due("nothing to do", x.played(2), -1);
            c.due("again", x.played(0), -1);
            c.due("four steps", x.about(3), 4);
        });
        e.edge("Promise 14", "-2 for others.", c -> {
            RailingsCount x = new RailingsCount();
            c.due("no text", x.played(0), -2);
            Check.read(x, "cut 1;");
            String ahead = Rings.seen(x);
            for (int text : new int[] {-1, -2, 1, 2, 3, 4, Rings.MIN, Rings.MAX}) {
                c.due("played(" + text + ")", x.played(text), -2);
            }
            c.due("nothing is done", Rings.seen(x), ahead);
            x.back();
            c.due("it is no more", x.played(0), -2);
        });
    }

    private static void ages(Edges e) {
        e.edge("Promise 15", "AGES: YEAR. NONE for others.", c -> {
            RailingsCount x = Rings.withChildren(2);
            String ahead = Rings.seen(x);
            for (int seed : new int[] {-1, 10000, Rings.MIN, Rings.MAX}) {
                c.due("seed " + seed, x.ages(seed, 1), -1);
            }
            for (int n : new int[] {0, -1, 41, Rings.MIN, Rings.MAX}) {
                c.due("n " + n, x.ages(0, n), -1);
            }
            c.due("nothing is done", Rings.seen(x), ahead);
            c.due("0, 1: a year", x.ages(0, 1), 1);
            c.due("9999, 40", x.ages(9999, 40), x.is(0));
            c.due("two steps", x.about(3), 2);
        });
    }

    private static void undo(Edges e) {
        e.edge("Promise 16", "The latest STEP is taken back: how many can be yet. NONE: there is none.", c -> {
            RailingsCount x = new RailingsCount();
            c.due("none", x.undo(), -1);
            x.cut(1);
            x.year(2);
            c.due("two more", x.undo(), 2);
            c.due("YEAR", x.is(0), 1);
            c.due("one more", x.undo(), 1);
            c.due("no more", x.undo(), 0);
            c.due("a bar", x.ofBar(1, 0), 1);
            c.due("none", x.undo(), -1);
            x.year(31);
            c.due("29 of 30", x.undo(), 29);
        });
    }

    private static void of(Edges e) {
        e.edge("Promise 17", "Of a CHILD: 0 STRIDE, 1 LUCK, 2 NUMBER (NONE: none yet).", c -> {
            RailingsCount x = new RailingsCount();
            x.child(9, 0);
            c.due("stride", x.of(0, 0), 9);
            c.due("luck", x.of(0, 1), 0);
            c.due("none yet", x.of(0, 2), -1);
            x.bar(4, 3);
            x.run(0, 4);
            c.due("0", x.of(0, 2), 0);
        });
        e.edge("Promise 17", "-2 for others.", c -> {
            RailingsCount x = Rings.withChildren(2);
            for (int child : Rings.noChildren(2)) {
                c.due("child " + child, x.of(child, 0), -2);
            }
            c.due("child -1", x.of(-1, 2), -2);
            for (int what : new int[] {-1, 3, Rings.MIN, Rings.MAX}) {
                c.due("what " + what, x.of(0, what), -2);
            }
        });
    }

    private static void ofBar(Edges e) {
        e.edge("Promise 18", "Of a PLACE: 0 KIND, 1 PAINT, 2 paints now. NONE for others.", c -> {
            RailingsCount x = new RailingsCount();
            x.bar(29, 3);
            x.paint(29, 8);
            c.due("kind", x.ofBar(29, 0), 3);
            c.due("paint", x.ofBar(29, 1), 8);
            c.due("paints", x.ofBar(29, 2), 1);
            Check.rule(x, "paints year + kind;");
            c.due("now", x.ofBar(29, 2), 3);
            x.year(1);
            c.due("a year on", x.ofBar(29, 2), 4);
            for (int p : Rings.NO_PLACES) {
                for (int what = 0; what < 3; what++) {
                    c.due("at " + p, x.ofBar(p, what), -1);
                }
            }
            for (int what : new int[] {-1, 3, Rings.MIN, Rings.MAX}) {
                c.due("what " + what, x.ofBar(0, what), -1);
            }
        });
    }

    private static void catches(Edges e) {
        e.edge("Promise 19", "catches now. NONE for others (count 1 .. 60).", c -> {
            RailingsCount x = Rings.railing(5, "catches count / 10 + year;");
            c.due("count 1", x.catches(0, 0, 1), 0);
            c.due("count 60", x.catches(0, 29, 60), 6);
            c.due("at a spike", x.catches(0, 5, 30), 3);
            x.year(2);
            c.due("now", x.catches(0, 0, 1), 2);
            for (int count : new int[] {0, -1, 61, Rings.MIN, Rings.MAX}) {
                c.due("count " + count, x.catches(0, 0, count), -1);
            }
            for (int p : Rings.NO_PLACES) {
                c.due("at " + p, x.catches(0, p, 1), -1);
            }
            for (int child : Rings.noChildren(1)) {
                c.due("child " + child, x.catches(child, 0, 1), -1);
            }
            c.due("child -1", x.catches(-1, 0, 1), -1);
        });
    }

    private static void is(Edges e) {
        e.edge("Promise 20", "0 YEAR, 1 X, 2 how many bars there are, 3 CHILDREN without a NUMBER (bits).", c -> {
            RailingsCount x = new RailingsCount();
            c.due("nobody", x.is(3), 0);
            c.due("all bars", x.is(2), 30);
            for (int i = 0; i < 7; i++) {
                x.child(1, 1);
            }
            c.due("all seven", x.is(3), 127);
            for (int p = 0; p < 30; p++) {
                x.bar(p, p % 4 == 1 ? 3 : p % 4);
            }
            c.due("no bar", x.is(2), 0);
            x.run(0, 0);
            c.due("0 is a NUMBER", x.is(3), 126);
            c.due("X", x.is(1), 263);
            c.due("YEAR", x.is(0), 0);
        });
        e.edge("Promise 20", "-2 for others.", c -> {
            for (int what : new int[] {-2, -1, 4, 5, Rings.MIN, Rings.MAX}) {
                c.due("is(" + what + ")", new RailingsCount().is(what), -2);
            }
        });
    }

    private static void book(Edges e) {
        e.edge("Promise 21", "BOOK: how many (i NONE); the i-th, from the eldest on: 0 YEAR, 1 CHILD, 2 PLACE, 3 NUMBER.", c -> {
            RailingsCount x = Rings.railing(3, "catches 0;");
            x.child(1, 1);
            c.due("none", x.book(-1, 0), 0);
            x.run(1, 1);
            x.year(3);
            c.due("two", x.book(-1, 0), 2);
            int[] eldest = {0, 1, 1, 2};
            for (int what = 0; what < 4; what++) {
                c.due("the eldest, " + what, x.book(0, what), eldest[what]);
            }
            c.due("the latest: child", x.book(1, 1), 0);
            c.due("the latest: year", x.book(1, 0), 0);
            x.child(1, 1);
            x.run(2, 3);
            c.due("in year 3", x.book(2, 0), 3);
            c.due("a NUMBER of 0", x.book(2, 3), 0);
        });
        e.edge("Promise 21", "-2 if there is none such, and for others.", c -> {
            RailingsCount x = Rings.withChildren(1);
            c.due("none yet", x.book(0, 0), -2);
            x.run(0, 0);
            for (int i : new int[] {1, 2, 29, 30, -2, Rings.MIN, Rings.MAX}) {
                c.due("book(" + i + ", 0)", x.book(i, 0), -2);
            }
            for (int what : new int[] {-1, 4, Rings.MIN, Rings.MAX}) {
                c.due("book(0, " + what + ")", x.book(0, what), -2);
            }
            x.undo();
            c.due("taken back", x.book(0, 0), -2);
        });
    }

    private static void foretold(Edges e) {
        e.edge("Promise 22", "FORETOLD: the NUMBER of a CHILD. -2 for others.", c -> {
            RailingsCount x = Rings.withChildren(2);
            c.due("in one year", x.foretold(1, 0), 14);
            c.due("in sixty", x.foretold(60, 0), 14);
            for (int n : new int[] {0, -1, 61, Rings.MIN, Rings.MAX}) {
                c.due("n " + n, x.foretold(n, 0), -2);
            }
            for (int child : Rings.noChildren(2)) {
                c.due("child " + child, x.foretold(1, child), -2);
            }
            c.due("child -1", x.foretold(1, -1), -2);
            for (int far : FAR) {
                c.due("both " + far, x.foretold(far, far), -2);
            }
        });
    }
}
