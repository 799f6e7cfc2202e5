/** Promises 23 to 54, sentence by sentence: what is asked of the ring and the image. */
final class EdgesOfAnswers {
    private static final int[] NO_COUNTS = {-1, 13, 14, Rings.MIN, Rings.MAX};
    private static final int[] NO_ERRORS = {-1, 3, 4, Rings.MIN, Rings.MAX};

    private EdgesOfAnswers() {
    }

    static void all(Edges e) {
        likely(e);
        start(e);
        mean(e);
        which(e);
        nth(e);
        valueAndWorth(e);
        goesOn(e);
        best(e);
        tell(e);
        could(e);
        ask(e);
        sings(e);
        visits(e);
        meet(e);
        shapes(e);
        longest(e);
        arcs(e);
        said(e);
        numbers(e);
        ledger(e);
        image(e);
        about(e);
    }

    private static void likely(Edges e) {
        e.edge("Promise 23", "LIKELY: the upper (low false), the lower one (low true).", c ->
            EdgesOfComing.likelyIs(c, Rings.railing(3, "catches 4;"), 0, 2, 6, 25));
        e.edge("Promise 23", "NONE for others (n 0 .. 12).", c -> {
            RailingsCount x = Rings.railing(12, "");
            c.due("nobody", new RailingsCount().likely(0, 0, 1, true), -1);
            for (boolean low : new boolean[] {false, true}) {
                for (int n : NO_COUNTS) {
                    c.due("n " + n, x.likely(0, 0, n, low), -1);
                }
                for (int p : Rings.NO_PLACES) {
                    c.due("from " + p, x.likely(0, p, 1, low), -1);
                }
                for (int child : Rings.noChildren(1)) {
                    c.due("child " + child, x.likely(child, 0, 1, low), -1);
                }
                c.due("child -1", x.likely(-1, 0, 1, low), -1);
            }
            EdgesOfComing.likelyIs(c, x, 12, 0, 1, 1);
            EdgesOfComing.likelyIs(c, x, 0, 12, 31381059609L, 100000000000L);
        });
    }

    private static void start(Edges e) {
        e.edge("Promise 24", "A START. NONE: none, and for others.", c -> {
            RailingsCount x = Rings.railing(12, "");
            c.due("0", x.start(0, 0), 12);
            c.due("12", x.start(0, 12), 0);
            for (int n : NO_COUNTS) {
                c.due("n " + n, x.start(0, n), -1);
            }
            for (int child : Rings.noChildren(1)) {
                c.due("child " + child, x.start(child, 1), -1);
            }
            c.due("child -1", x.start(-1, 1), -1);
            c.due("none", Rings.gates(3).start(0, 0), -1);
        });
    }

    private static void mean(Edges e) {
        e.edge("Promise 25", "MEAN: the upper (low false), the lower one (low true).", c ->
            EdgesOfComing.meanIs(c, Rings.railing(2, "catches 5;"), 0, 3, 2));
        e.edge("Promise 25", "NONE: not, and for others.", c -> {
            RailingsCount x = Rings.railing(13, "");
            EdgesOfComing.meanIs(c, x, 0, -1, -1);
            for (int p : Rings.NO_PLACES) {
                EdgesOfComing.meanIs(c, x, p, -1, -1);
            }
            for (int child : Rings.noChildren(1)) {
                c.due("child " + child, x.mean(child, 12, true), -1);
            }
            c.due("child -1", x.mean(-1, 12, false), -1);
        });
    }

    private static void which(Edges e) {
        e.edge("Promise 26", "WHICH TO CUT. NONE: none, and for others.", c -> {
            RailingsCount x = Rings.railing(3, "");
            c.due("2 of 3", x.which(0, 0, 2), 0);
            c.due("none", x.which(0, 0, 3), -1);
            for (int n : NO_COUNTS) {
                c.due("n " + n, x.which(0, 0, n), -1);
            }
            for (int p : Rings.NO_PLACES) {
                c.due("from " + p, x.which(0, p, 2), -1);
            }
            for (int child : Rings.noChildren(1)) {
                c.due("child " + child, x.which(child, 0, 2), -1);
            }
            c.due("child -1", x.which(-1, 0, 2), -1);
            c.due("0 from the last bar", x.which(0, 2, 0), 2);
            c.due("less than 0 from the last bar", x.which(0, 2, -1), -1);
            c.due("nothing is cut", x.is(2), 29);
        });
    }

    private static void nth(Edges e) {
        e.edge("Promise 27", "THE N-TH. NONE: none, and for others.", c -> {
            RailingsCount x = new RailingsCount();
            c.due("1", x.nth(29, 1), 29);
            c.due("60", x.nth(29, 60), 28);
            for (int n : new int[] {0, -1, 61, Rings.MIN, Rings.MAX}) {
                c.due("n " + n, x.nth(0, n), -1);
            }
            for (int p : Rings.NO_PLACES) {
                c.due("from " + p, x.nth(p, 1), -1);
            }
            x.bar(4, 3);
            c.due("none", x.nth(0, 5), -1);
            c.due("the bar ahead of the first", Rings.gates(7).nth(0, 0), -1);
        });
    }

    private static void valueAndWorth(Edges e) {
        e.edge("Promise 28", "A VALUE: true. False for others (0 .. 12; 0 .. 99).", c -> {
            RailingsCount x = Rings.railing(0, "");
            c.due("value(0, 99)", x.value(0, 99), true);
            c.due("value(12, 0)", x.value(12, 0), true);
            for (int n : NO_COUNTS) {
                c.due("n " + n, x.value(n, 1), false);
            }
            for (int value : new int[] {-1, 100, Rings.MIN, Rings.MAX}) {
                c.due("value " + value, x.value(0, value), false);
            }
            c.due("as told", x.worth(0, 0, false), 99);
        });
        e.edge("Promise 29", "WORTH: the upper (low false), the lower one (low true).", c ->
            EdgesOfComing.worthIs(c, Rings.railing(1, "catches 5;"), 0, 1, 2));
        e.edge("Promise 29", "NONE for others.", c -> {
            RailingsCount x = Rings.railing(1, "");
            for (int p : Rings.NO_PLACES) {
                EdgesOfComing.worthIs(c, x, p, -1, -1);
            }
            for (int child : Rings.noChildren(1)) {
                c.due("child " + child, x.worth(child, 0, true), -1);
            }
            c.due("child -1", x.worth(-1, 0, false), -1);
            EdgesOfComing.worthIs(c, x, 29, 81, 50);
        });
    }

    private static void goesOn(Edges e) {
        e.edge("Promise 30", "Whether it goes on, having counted k (1, 0).", c -> {
            RailingsCount x = Rings.railing(2, "catches 5;");
            c.due("0 for 1/2", x.goesOn(0, 0, 0), 1);
            c.due("1 for 1", x.goesOn(0, 0, 1), 0);
        });
        e.edge("Promise 30", "NONE: it can't have, and for others.", c -> {
            RailingsCount x = Rings.railing(2, "");
            c.due("none behind these", x.goesOn(0, 0, 2), -1);
            c.due("not so many", x.goesOn(0, 0, 3), -1);
            for (int k : new int[] {-1, 12, 13, Rings.MIN, Rings.MAX}) {
                c.due("k " + k, Rings.withChildren(1).goesOn(0, 0, k), -1);
            }
            c.due("k 11", Rings.withChildren(1).goesOn(0, 0, 11), 0);
            for (int p : Rings.NO_PLACES) {
                c.due("from " + p, x.goesOn(0, p, 0), -1);
            }
            for (int child : Rings.noChildren(1)) {
                c.due("child " + child, x.goesOn(child, 0, 0), -1);
            }
            c.due("child -1", x.goesOn(-1, 0, 0), -1);
        });
    }

    private static void best(Edges e) {
        e.edge("Promise 31", "BEST START. NONE for others.", c -> {
            RailingsCount x = Rings.railing(29, "");
            c.due("the lowest", x.best(0), 0);
            for (int child : Rings.noChildren(1)) {
                c.due("child " + child, x.best(child), -1);
            }
            c.due("child -1", x.best(-1), -1);
            c.due("nobody", new RailingsCount().best(0), -1);
            RailingsCount two = Rings.gates(5, 15);
            two.bar(6, 3);
            two.bar(16, 3);
            Check.rule(two, "catches if place = 5 then 10 else 0 end;");
            c.due("by the first bar all is lost", two.best(0), 7);
        });
    }

    private static void tell(Edges e) {
        e.edge("Promise 32", "A TELLING: how many there are (from NONE: none any more).", c -> {
            RailingsCount x = new RailingsCount();
            c.due("none of none", x.tell(-1, 0, 0), 0);
            c.due("one", x.tell(0, 12, 12), 1);
            c.due("the same again", x.tell(0, 12, 12), 2);
            c.due("none any more", x.tell(-1, 1, 1), 0);
            c.due("none", x.about(4), 0);
            c.due("all ways again", x.could(0, 0), 4096);
        });
        e.edge("Promise 32", "-2 for others, or if there are 6.", c -> {
            RailingsCount x = new RailingsCount();
            for (int from : new int[] {-2, 12, Rings.MIN, Rings.MAX}) {
                c.due("from " + from, x.tell(from, 1, 0), -2);
            }
            for (int n : new int[] {0, -1, 13, Rings.MIN, Rings.MAX}) {
                c.due("n " + n, x.tell(0, n, 0), -2);
            }
            c.due("beyond 11", x.tell(11, 2, 0), -2);
            for (int bars : new int[] {-1, 13, Rings.MIN, Rings.MAX}) {
                c.due("bars " + bars, x.tell(0, 1, bars), -2);
            }
            for (int i = 1; i <= 6; i++) {
                c.due("tell " + i, x.tell(11, 1, 1), i);
            }
            c.due("there are 6", x.tell(11, 1, 1), -2);
            c.due("none any more", x.tell(-1, 0, 0), 0);
            c.due("room again", x.tell(11, 1, 1), 1);
        });
    }

    private static void could(Edges e) {
        e.edge("Promise 33", "COULD BE: 0 how many, 1 PLACES that are bars in all, 2 in none (bits).", c -> {
            RailingsCount x = new RailingsCount();
            c.due("all ways", x.could(0, 0), 4096);
            c.due("in all", x.could(0, 1), 0);
            c.due("in none", x.could(0, 2), 0);
            x.tell(3, 4, 4);
            x.tell(7, 5, 0);
            c.due("how many", x.could(0, 0), 8);
            c.due("in all", x.could(0, 1), 0x78);
            c.due("in none", x.could(0, 2), 0xf80);
        });
        e.edge("Promise 33", "NONE for others, and (1, 2) if there is none.", c -> {
            RailingsCount x = new RailingsCount();
            for (int err : NO_ERRORS) {
                c.due("err " + err, x.could(err, 0), -1);
            }
            for (int what : new int[] {-1, 3, Rings.MIN, Rings.MAX}) {
                c.due("what " + what, x.could(0, what), -1);
            }
            x.tell(0, 1, 5);
            c.due("no way", x.could(2, 0), 0);
            c.due("in all", x.could(2, 1), -1);
            c.due("in none", x.could(2, 2), -1);
        });
    }

    private static void ask(Edges e) {
        e.edge("Promise 34", "WHERE TO RUN: 100 times the PLACE and how many.", c -> {
            RailingsCount x = new RailingsCount();
            c.due("from 0 eleven", x.ask(0), 11);
            x.tell(0, 2, 1);
            x.tell(2, 8, 0);
            c.due("from 1 eleven", x.ask(0), 111);
        });
        e.edge("Promise 34", "NONE: none, and for others.", c -> {
            RailingsCount x = new RailingsCount();
            for (int err : NO_ERRORS) {
                c.due("err " + err, x.ask(err), -1);
            }
            x.tell(0, 12, 12);
            c.due("one way", x.ask(0), -1);
            x.tell(0, 1, 5);
            c.due("no way", x.ask(2), -1);
        });
    }

    private static void sings(Edges e) {
        e.edge("Promise 35", "WHICH SINGS: the cost (first false), the first PLACE to try (first true).", c -> {
            RailingsCount x = new RailingsCount();
            x.paint(28, 4);
            c.due("cost", x.sings(28, 29, false), 5);
            c.due("first", x.sings(28, 29, true), 28);
        });
        e.edge("Promise 35", "NONE: none (first true), and for others (a above b).", c -> {
            RailingsCount x = new RailingsCount();
            c.due("none", x.sings(29, 29, true), -1);
            for (boolean first : new boolean[] {false, true}) {
                c.due("a above b", x.sings(1, 0, first), -1);
                for (int p : Rings.NO_PLACES) {
                    c.due("a " + p, x.sings(p, 29, first), -1);
                    c.due("b " + p, x.sings(0, p, first), -1);
                    c.due("both " + p, x.sings(p, p, first), -1);
                }
            }
        });
    }

    private static void visits(Edges e) {
        e.edge("Promise 36", "VISITS (bits). NONE for others.", c -> {
            RailingsCount x = Rings.withChildren(1);
            x.child(5, 5);
            c.due("all", x.visits(0, 29), (1 << 30) - 1);
            c.due("by fives", x.visits(1, 0), 1 | 1 << 5 | 1 << 10 | 1 << 15 | 1 << 20 | 1 << 25);
            for (int p : Rings.NO_PLACES) {
                c.due("from " + p, x.visits(0, p), -1);
            }
            for (int child : Rings.noChildren(2)) {
                c.due("child " + child, x.visits(child, 0), -1);
            }
            c.due("child -1", x.visits(-1, 0), -1);
        });
    }

    private static void meet(Edges e) {
        e.edge("Promise 37", "MEET. NONE: never, and for others.", c -> {
            RailingsCount x = Rings.withChildren(1);
            x.child(2, 2);
            c.due("at once", x.meet(0, 29, 1, 29), 0);
            c.due("behind one", x.meet(0, 0, 1, 29), 1);
            c.due("never", x.meet(0, 0, 0, 1), -1);
            for (int p : Rings.NO_PLACES) {
                c.due("from " + p, x.meet(0, p, 1, 0), -1);
                c.due("at " + p, x.meet(0, 0, 1, p), -1);
                c.due("both " + p, x.meet(0, p, 0, p), -1);
            }
            for (int child : Rings.noChildren(2)) {
                c.due("a " + child, x.meet(child, 0, 1, 0), -1);
                c.due("b " + child, x.meet(0, 0, child, 0), -1);
            }
            c.due("a -1", x.meet(-1, 0, 0, 0), -1);
            c.due("b -1", x.meet(0, 0, -1, 0), -1);
        });
    }

    private static void shapes(Edges e) {
        e.edge("Promise 38", "PERIOD.", c -> {
            c.due("of a new ring", new RailingsCount().period(), 1);
            c.due("of one bar", Rings.gates(29).period(), 30);
            c.due("of opposite ones", Rings.gates(0, 15).period(), 15);
        });
        e.edge("Promise 39", "LEAST TURN.", c -> {
            c.due("of a new ring", new RailingsCount().least(), 0);
            c.due("of one bar", Rings.gates(29).least(), 29);
            c.due("of opposite ones", Rings.gates(14, 29).least(), 14);
        });
        e.edge("Promise 40", "MIRRORS.", c -> {
            c.due("of a new ring", new RailingsCount().mirrors(), 30);
            c.due("of one bar", Rings.gates(29).mirrors(), 1);
            c.due("of three", Rings.gates(0, 1, 3).mirrors(), 0);
        });
    }

    private static void longest(Edges e) {
        e.edge("Promise 41", "LONGEST: how many (first false), the first PLACE (first true; NONE: none).", c -> {
            RailingsCount x = Rings.gates(28, 29, 0);
            c.due("bars", x.longest(1, false), 3);
            c.due("from", x.longest(1, true), 28);
            c.due("gaps", x.longest(0, false), 0);
            c.due("from none", x.longest(0, true), -1);
            c.due("spikes", x.longest(3, false), 0);
            x.bar(7, 3);
            c.due("one spike", x.longest(3, true), 7);
        });
        e.edge("Promise 41", "-2 for others.", c -> {
            for (int kind : new int[] {-1, -2, 4, Rings.MIN, Rings.MAX}) {
                c.due("how many of " + kind, new RailingsCount().longest(kind, false), -2);
                c.due("the first of " + kind, new RailingsCount().longest(kind, true), -2);
            }
        });
    }

    private static void arcs(Edges e) {
        int[] wrong = {0, -1, 31, Rings.MIN, Rings.MAX};
        e.edge("Promise 42", "RICHEST ARC: the PLACE. NONE for others (1 .. 30).", c -> {
            RailingsCount x = Rings.gates(29);
            c.due("1", x.arc(1), 29);
            c.due("2", x.arc(2), 28);
            c.due("29", x.arc(29), 1);
            c.due("30", x.arc(30), 0);
            for (int n : wrong) {
                c.due("arc(" + n + ")", x.arc(n), -1);
            }
        });
        e.edge("Promise 43", "QUIET. NONE for others (1 .. 30).", c -> {
            RailingsCount x = Rings.gates(29);
            c.due("1", x.quiet(1), 29);
            c.due("30", x.quiet(30), 0);
            c.due("30 without a bar", Rings.gates().quiet(30), 30);
            for (int n : wrong) {
                c.due("quiet(" + n + ")", x.quiet(n), -1);
            }
        });
        e.edge("Promise 44", "CHANGED (bits).", c -> {
            RailingsCount x = new RailingsCount();
            x.cut(29);
            x.cut(0);
            c.due("0 and 29", x.changed(), 1 | 1 << 29);
            x.undo();
            c.due("taken back", x.changed(), 1 << 29);
            x.back();
            c.due("none", x.changed(), 0);
        });
    }

    private static void said(Edges e) {
        e.edge("Promise 45", "SAID: how many there are (child NONE: none any more).", c -> {
            RailingsCount x = Rings.withChildren(1);
            c.due("none of none", x.said(-1, 0, 0), 0);
            c.due("one", x.said(0, 0, 0), 1);
            c.due("two", x.said(0, 29, 10), 2);
            c.due("none any more", x.said(-1, 1, 1), 0);
            c.due("none", x.about(5), 0);
        });
        e.edge("Promise 45", "-2 for others, or if there are 8.", c -> {
            RailingsCount x = Rings.withChildren(1);
            c.due("nobody", new RailingsCount().said(0, 0, 0), -2);
            for (int child : Rings.noChildren(1)) {
                c.due("child " + child, x.said(child, 0, 0), -2);
            }
            for (int p : Rings.NO_PLACES) {
                c.due("at " + p, x.said(0, p, 0), -2);
            }
            for (int odds : new int[] {-1, 11, Rings.MIN, Rings.MAX}) {
                c.due("catches " + odds, x.said(0, 0, odds), -2);
            }
            for (int i = 1; i <= 8; i++) {
                c.due("said " + i, x.said(0, 0, 10), i);
            }
            c.due("there are 8", x.said(0, 0, 10), -2);
            c.due("none any more", x.said(-1, 0, 0), 0);
            c.due("room again", x.said(0, 0, 10), 1);
        });
        e.edge("Promise 46", "WHOSE LAW (bits).", c -> {
            RailingsCount x = Rings.withChildren(1);
            c.due("no text", x.whose(), 0);
            for (int i = 0; i < 4; i++) {
                Check.read(x, "catches " + i % 2 + ";");
            }
            c.due("nothing said", x.whose(), 15);
            x.said(0, 0, 1);
            c.due("1 and 3", x.whose(), 10);
            x.said(0, 0, 0);
            c.due("none", x.whose(), 0);
        });
    }

    private static void numbers(Edges e) {
        e.edge("Promise 47", "GREATEST. NONE: none.", c -> {
            RailingsCount x = Rings.railing(3, "catches 0;");
            x.child(1, 1);
            c.due("none has one", x.greatest(), -1);
            x.run(1, 3);
            c.due("0 is one", x.greatest(), 1);
            x.run(0, 3);
            c.due("the lowest", x.greatest(), 0);
            x.undo();
            x.undo();
            c.due("taken back", x.greatest(), -1);
        });
        e.edge("Promise 48", "TWINS.", c -> {
            RailingsCount x = Rings.withChildren(7);
            c.due("none", x.twins(), 0);
            Check.rule(x, "catches 10;");
            x.year(1);
            c.due("all alike", x.twins(), 21);
        });
        e.edge("Promise 49", "ODD (bits).", c -> {
            RailingsCount x = Rings.withChildren(7);
            c.due("none", x.odd(), 0);
            Check.rule(x, "catches if who = 3 then 0 else 10 end;");
            x.year(1);
            c.due("all but 3, of 60", x.odd(), 127 - 8);
        });
        e.edge("Promise 50", "THICKEST.", c -> {
            RailingsCount x = new RailingsCount();
            c.due("all alike", x.thickest(), 0);
            x.bar(0, 0);
            x.year(1);
            c.due("the first bar", x.thickest(), 1);
            x.paint(29, 9);
            c.due("the last", x.thickest(), 29);
        });
    }

    private static void ledger(Edges e) {
        e.edge("Promise 51", "BY THE BOOK. -2 for others.", c -> {
            RailingsCount x = Rings.railing(3, "catches 0;");
            c.due("nobody", new RailingsCount().ledger(0), -2);
            c.due("no run", x.ledger(0), 0);
            x.run(0, 0);
            c.due("its run", x.ledger(0), 3);
            c.due("of all", x.ledger(-1), 3);
            for (int child : Rings.noChildren(1)) {
                c.due("child " + child, x.ledger(child), -2);
            }
        });
    }

    private static void image(Edges e) {
        e.edge("Promise 52", "THE IMAGE is as all is now: YEAR.", c -> {
            RailingsCount x = new RailingsCount();
            c.due("YEAR 0", x.image(), 0);
            x.year(3);
            x.cut(4);
            c.due("YEAR 3", x.image(), 3);
            c.due("nothing is changed by it", x.about(3), 4);
            c.due("nor by then", x.changed(), 0);
            c.due("in the last year", Rings.inLastYear().image(), 9999);
        });
        e.edge("Promise 53", "BACK to THE IMAGE (it stays): YEAR.", c -> {
            RailingsCount x = new RailingsCount();
            x.year(3);
            x.image();
            x.year(2);
            c.due("YEAR 3", x.back(), 3);
            c.due("is", x.is(0), 3);
            c.due("back to it at once", x.back(), 3);
            x.cut(5);
            c.due("it stays", x.changed(), 32);
            c.due("YEAR 3", x.back(), 3);
            c.due("a bar again", x.ofBar(5, 0), 1);
        });
    }

    private static void about(Edges e) {
        e.edge("Promise 54", "0 CHILDREN, 1 TEXTS, 2 THE TEXT (NONE), 3 STEPS that can be taken back, 4 TELLINGS, 5 SAID, 6 bytes of the tape.", c -> {
            RailingsCount x = new RailingsCount();
            int[] first = {0, 0, -1, 0, 0, 0, 0};
            for (int what = 0; what < 7; what++) {
                c.due("at first, " + what, x.about(what), first[what]);
            }
            for (int i = 0; i < 8; i++) {
                x.child(1, 1);
                Check.rule(x.about(1) < 4 ? x : new RailingsCount(), "");
                x.tell(0, 1, 1);
                x.said(0, 0, 0);
            }
            x.said(0, 0, 0);
            x.year(40);
            for (int i = 0; i < 16; i++) {
                x.feed(0, 0, 0, 0, 0);
            }
            int[] most = {7, 4, 3, 30, 6, 8, 300};
            for (int what = 0; what < 7; what++) {
                c.due("at most, " + what, x.about(what), most[what]);
            }
        });
        e.edge("Promise 54", "-2 for others.", c -> {
            for (int what : new int[] {-1, -2, 7, 8, Rings.MIN, Rings.MAX}) {
                c.due("about(" + what + ")", new RailingsCount().about(what), -2);
            }
        });
    }
}
