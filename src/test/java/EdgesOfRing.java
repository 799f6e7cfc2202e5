/** Terms I: the ring, children, runs, years and STEPS. */
final class EdgesOfRing {
    private static final String WHERE = "Terms I";

    private EdgesOfRing() {
    }

    static void all(Edges e) {
        places(e);
        children(e);
        runs(e);
        drawsOfRuns(e);
        cutAndAdded(e);
        years(e);
        steps(e);
        takenBack(e);
    }

    private static void places(Edges e) {
        e.edge(WHERE, "PLACES 0 .. 29 in a ring (behind 29 comes 0)", c -> {
            RailingsCount x = new RailingsCount();
            c.due("the first place", x.bar(0, 3), true);
            c.due("the last place", x.bar(29, 2), true);
            for (int p : Rings.NO_PLACES) {
                c.due("bar at " + p, x.bar(p, 2), false);
                c.due("kind at " + p, x.ofBar(p, 0), -1);
            }
            c.due("ahead of 0", x.ofBar(0, 0), 3);
            x.bar(0, 1);
            x.bar(29, 1);
            x.bar(1, 3);
            c.due("behind 29 comes 0", x.nth(29, 2), 0);
            c.due("then the spike", x.nth(29, 3), -1);
        });
        e.edge(WHERE, ": KIND 0 gap, 1 bar (at first), 2 gate, 3 spike (told)", c -> {
            RailingsCount x = new RailingsCount();
            for (int p = 0; p < 30; p++) {
                c.due("at first, " + p, x.ofBar(p, 0), 1);
            }
            for (int kind = 0; kind <= 3; kind++) {
                c.due("told " + kind, x.bar(4, kind), true);
                c.due("is " + kind, x.ofBar(4, 0), kind);
            }
            for (int kind : new int[] {-1, 4, Rings.MIN, Rings.MAX}) {
                c.due("told " + kind, x.bar(4, kind), false);
                c.due("as it was", x.ofBar(4, 0), 3);
            }
        });
        e.edge(WHERE, ", PAINT 0 .. 9 (told; at first 0).", c -> {
            RailingsCount x = new RailingsCount();
            for (int p = 0; p < 30; p++) {
                c.due("at first, " + p, x.ofBar(p, 1), 0);
            }
            for (int paint : new int[] {9, 0, 1}) {
                c.due("told " + paint, x.paint(4, paint), true);
                c.due("is " + paint, x.ofBar(4, 1), paint);
            }
            for (int paint : new int[] {-1, 10, Rings.MIN, Rings.MAX}) {
                c.due("told " + paint, x.paint(4, paint), false);
                c.due("as it was", x.ofBar(4, 1), 1);
            }
        });
    }

    private static void children(Edges e) {
        e.edge(WHERE, "CHILDREN 0 .. 6 (told one by one)", c -> {
            RailingsCount x = new RailingsCount();
            for (int i = 0; i < 7; i++) {
                c.due("not yet " + i, x.of(i, 0), -2);
                c.due("child " + i, x.child(i + 1, 0), i);
                c.due("told " + i, x.of(i, 0), i + 1);
            }
            c.due("no eighth", x.child(1, 0), -1);
            c.due("seven", x.about(0), 7);
            c.due("no child 7", x.of(7, 0), -2);
        });
        e.edge(WHERE, ": STRIDE 1 .. 9", c -> {
            RailingsCount x = new RailingsCount();
            for (int stride : new int[] {0, 10, -1, Rings.MIN, Rings.MAX}) {
                c.due("stride " + stride, x.child(stride, 5), -1);
            }
            c.due("nobody", x.about(0), 0);
            c.due("stride 1", x.child(1, 5), 0);
            c.due("stride 9", x.child(9, 5), 1);
        });
        e.edge(WHERE, ", LUCK 0 .. 9", c -> {
            RailingsCount x = new RailingsCount();
            for (int luck : new int[] {-1, 10, Rings.MIN, Rings.MAX}) {
                c.due("luck " + luck, x.child(5, luck), -1);
            }
            c.due("nobody", x.about(0), 0);
            c.due("luck 0", x.child(5, 0), 0);
            c.due("luck 9", x.child(5, 9), 1);
        });
        e.edge(WHERE, ", NUMBER: none (at first) or 0 .. 60.", c -> {
            RailingsCount x = Rings.railing(0, "catches 0;");
            x.child(1, 1);
            c.due("at first", x.of(0, 2), -1);
            x.run(0, 0);
            c.due("0", x.of(0, 2), 0);
            x.bar(0, 1);
            x.run(1, 0);
            c.due("60", x.of(1, 2), 60);
        });
        e.edge(WHERE, "YEAR 0 .. 9999 (at first 0).", c -> {
            c.due("at first", new RailingsCount().is(0), 0);
            RailingsCount x = Rings.inYear(9998);
            c.due("the last", x.year(1), 0);
            c.due("is 9999", x.is(0), 9999);
            c.due("none behind it", x.year(1), -1);
            c.due("is 9999 yet", x.is(0), 9999);
        });
        e.edge(WHERE, "X: at first 263.", c -> c.due("X", new RailingsCount().is(1), 263));
        // no more than seven runs can be, as each child runs once: thirty are never too many
        e.edge(WHERE, "BOOK (the latest 30 runs): YEAR, CHILD, the PLACE it ran from, NUMBER.", c -> {
            RailingsCount x = Rings.withChildren(7);
            Check.rule(x, "catches if count = 9 - who then 10 else 0 end;");
            c.due("none at first", x.book(-1, 0), 0);
            for (int who = 6; who > 0; who--) {
                x.run(who, 29 - who);
            }
            x.year(2);
            c.due("seven", x.book(-1, 0), 7);
            for (int i = 0; i < 6; i++) {
                c.due("year of " + i, x.book(i, 0), 0);
                c.due("child of " + i, x.book(i, 1), 6 - i);
                c.due("place of " + i, x.book(i, 2), 23 + i);
                c.due("number of " + i, x.book(i, 3), 3 + i);
            }
            c.due("the last ran in the first year, child", x.book(6, 1), 0);
            c.due("in year", x.book(6, 0), 0);
            c.due("number", x.book(6, 3), 9);
        });
    }

    private static void runs(Edges e) {
        e.edge(WHERE, "A RUN of a CHILD without a NUMBER from a PLACE", c -> {
            RailingsCount x = Rings.withChildren(1);
            c.due("it runs", x.run(0, 0) >= 1, true);
            String ahead = Rings.seen(x);
            c.due("it has a NUMBER", x.run(0, 0), -1);
            c.due("nothing is done", Rings.seen(x), ahead);
        });
        e.edge(WHERE, ": from that one on PLACE by PLACE, 60 at most (twice round)", c -> {
            for (int from : new int[] {0, 17, 29}) {
                RailingsCount x = Rings.withChildren(1);
                Check.rule(x, "catches 0;");
                c.due("all are bars, from " + from, x.run(0, from), 60);
                c.due("sixty draws", x.is(1), Rings.drawn(263, 60));
            }
            RailingsCount one = Rings.gates(7);
            one.child(1, 1);
            Check.rule(one, "catches 0;");
            c.due("one bar, from behind it", one.run(0, 8), 2);
            c.due("one bar, from it", one.run(1, 7), 2);
            RailingsCount last = Rings.railing(7, "catches 0;");
            last.child(1, 1);
            c.due("that one too", last.run(0, 6), 1);
            c.due("the way round to the spike", last.run(1, 8), 29);
        });
        e.edge(WHERE, ": gaps and gates are nothing", c -> {
            RailingsCount x = Rings.gates();
            for (int p = 0; p < 30; p += 2) {
                x.bar(p, 0);
            }
            c.due("none is counted", x.run(0, 5), 0);
            c.due("none is drawn", x.is(1), 263);
        });
        e.edge(WHERE, "; a spike ends it", c -> {
            RailingsCount x = Rings.railing(2, "catches 0;");
            x.child(1, 1);
            c.due("two ahead of it", x.run(0, 0), 2);
            c.due("two draws", x.is(1), Rings.drawn(263, 2));
            c.due("from it", x.run(1, 2), 0);
            c.due("no draw", x.is(1), Rings.drawn(263, 2));
        });
    }

    private static void drawsOfRuns(Edges e) {
        e.edge(WHERE, "; a bar is counted, then a draw by 10 (X mod 10, X being (X * 503 + 389) mod 30691 then): below catches it ends.", c -> {
            // X is 263, then 9914, then 15189: the draws are 3 and 4
            c.due("3 is below 4", Rings.railing(9, "catches 4;").run(0, 0), 1);
            RailingsCount x = Rings.railing(9, "catches if count = 1 then 3 else 5 end;");
            c.due("3 is not below 3, 4 is below 5", x.run(0, 0), 2);
            c.due("X then", x.is(1), 15189);
            c.due("caught by the last bar: counted", Rings.railing(1, "catches 10;").run(0, 0), 1);
            c.due("by 10 always", Rings.railing(9, "catches 10;").run(0, 0), 1);
            c.due("by 0 never", Rings.railing(9, "catches 0;").run(0, 0), 9);
            // the draws are 3 4 9 8 7 8 5 1 6 6 7 2 3 7 0
            c.due("by 1 at the first 0", Rings.railing(29, "").run(0, 0), 15);
        });
        e.edge(WHERE, "NUMBER is how many were counted; written down.", c -> {
            RailingsCount x = Rings.railing(5, "catches 0;");
            c.due("from 3: two", x.run(0, 3), 2);
            c.due("NUMBER", x.of(0, 2), 2);
            c.due("one run", x.book(-1, 0), 1);
            int[] due = {0, 0, 3, 2};
            for (int what = 0; what < 4; what++) {
                c.due("written " + what, x.book(0, what), due[what]);
            }
        });
    }

    private static void cutAndAdded(Edges e) {
        e.edge(WHERE, "CUT: a bar is a gap.", c -> {
            RailingsCount x = new RailingsCount();
            x.paint(8, 6);
            x.bar(1, 0);
            x.bar(2, 2);
            x.bar(3, 3);
            c.due("a bar", x.cut(8), true);
            c.due("is a gap", x.ofBar(8, 0), 0);
            c.due("nothing is said of its paint", x.ofBar(8, 1), 6);
            String ahead = Rings.seen(x);
            c.due("a gap", x.cut(1), false);
            c.due("a gate", x.cut(2), false);
            c.due("a spike", x.cut(3), false);
            c.due("again", x.cut(8), false);
            c.due("nothing is done", Rings.seen(x), ahead);
        });
        e.edge(WHERE, "ADDED: a gap is a bar (PAINT 0).", c -> {
            RailingsCount x = new RailingsCount();
            x.bar(1, 0);
            x.paint(1, 9);
            x.bar(2, 2);
            x.bar(3, 3);
            c.due("a gap", x.add(1), true);
            c.due("is a bar", x.ofBar(1, 0), 1);
            c.due("without paint", x.ofBar(1, 1), 0);
            String ahead = Rings.seen(x);
            c.due("a bar", x.add(0), false);
            c.due("a gate", x.add(2), false);
            c.due("a spike", x.add(3), false);
            c.due("again", x.add(1), false);
            c.due("nothing is done", Rings.seen(x), ahead);
        });
    }

    private static void years(Edges e) {
        e.edge(WHERE, "A YEAR: CHILDREN without a NUMBER by number: a draw by 30: each RUNS from that PLACE.", c -> {
            RailingsCount x = Rings.withChildren(3);
            Check.rule(x, "catches 10;");
            x.run(1, 5);
            // a run is one draw here, a year's place another: X behind 1, 2 .. 5 draws
            c.due("two came by a NUMBER", x.year(1), 2);
            c.due("the lowest first", x.book(1, 1), 0);
            c.due("from", x.book(1, 2), Rings.drawn(263, 1) % 30);
            c.due("then the next without one", x.book(2, 1), 2);
            c.due("from", x.book(2, 2), Rings.drawn(263, 3) % 30);
            c.due("X then", x.is(1), Rings.drawn(263, 5));
            c.due("nobody is left", x.year(1), 0);
            c.due("no draw", x.is(1), Rings.drawn(263, 5));
            c.due("nobody at all", new RailingsCount().year(1), 0);
        });
        e.edge(WHERE, "Then PAINT of each bar is more by paints (0 at least, 9 at most).", c -> {
            RailingsCount x = new RailingsCount();
            x.bar(0, 0);
            x.bar(1, 2);
            x.bar(2, 3);
            x.paint(3, 8);
            x.paint(4, 9);
            x.year(1);
            int[] due = {0, 0, 0, 9, 9, 1};
            for (int p = 0; p < due.length; p++) {
                c.due("paint of " + p, x.ofBar(p, 1), due[p]);
            }
            Check.rule(x, "paints if place = 5 then 0-7 else 99 end;");
            x.year(1);
            c.due("not less", x.ofBar(5, 1), 1);
            c.due("9 at most", x.ofBar(6, 1), 9);
            c.due("no bar", x.ofBar(2, 1), 0);
        });
        e.edge(WHERE, "YEAR is one more (at 9999 none can pass).", c -> {
            RailingsCount x = Rings.inYear(9998);
            x.year(1);
            c.due("one more", x.is(0), 9999);
            x.child(1, 1);
            String ahead = Rings.seen(x);
            c.due("none can pass", x.year(1), -1);
            c.due("nothing is done", Rings.seen(x), ahead);
            c.due("none is foretold", x.foretold(1, 0), -1);
            c.due("nor by a text", x.played(0), 0);
            c.due("nothing is done", Rings.seen(x), ahead);
            // 21 * 2 + 263 = 305, mod 6 is 5
            c.due("nor by ages", x.ages(21, 1), 9999);
            c.due("nobody ran", x.of(0, 2), -1);
        });
    }

    private static void steps(Edges e) {
        e.edge(WHERE, "STEPS: a RUN, CUT, ADDED, a YEAR (each), AGES (see V)", c -> {
            RailingsCount x = Rings.withChildren(1);
            x.bar(1, 0);
            x.paint(2, 2);
            c.due("what is told is none", x.about(3), 0);
            x.run(0, 0);
            c.due("a run", x.about(3), 1);
            x.cut(5);
            c.due("cut", x.about(3), 2);
            x.add(1);
            c.due("added", x.about(3), 3);
            x.year(4);
            c.due("years, each", x.about(3), 7);
            x.ages(5, 40);
            c.due("ages, one", x.about(3), 8);
            Check.read(x, "place 3 kind 2;cut 10;child 2 luck 2;year 2;cut 10;");
            x.played(0);
            c.due("by a text as by hand", x.about(3), 11);
            x.bar(11, 1);
            x.run(0, 0);
            x.cut(10);
            x.add(11);
            x.year(61);
            x.ages(0, 41);
            c.due("what can't be is none", x.about(3), 11);
        });
        e.edge(WHERE, ": the latest 30 can be taken back, the latest first", c -> {
            RailingsCount x = new RailingsCount();
            for (int p = 0; p < 29; p++) {
                x.cut(p);
                c.due("steps", x.about(3), p + 1);
            }
            x.cut(29);
            c.due("thirty", x.about(3), 30);
            x.add(7);
            c.due("thirty yet", x.about(3), 30);
            c.due("the latest first", x.undo(), 29);
            c.due("it was added", x.ofBar(7, 0), 0);
            for (int left = 28; left >= 0; left--) {
                c.due("undo", x.undo(), left);
                c.due("a bar again", x.ofBar(left + 1, 0), 1);
            }
            c.due("the thirty-first", x.undo(), -1);
            c.due("is as it was done", x.ofBar(0, 0), 0);
        });
    }

    private static void takenBack(Edges e) {
        e.edge(WHERE, "(KINDS, PAINT, NUMBERS, YEAR, X, BOOK are as ahead of it", c -> {
            RailingsCount x = Rings.withChildren(3);
            x.bar(4, 0);
            x.paint(4, 7);
            String ahead = Rings.seen(x);
            x.run(1, 5);
            x.undo();
            c.due("a run", Rings.seen(x), ahead);
            x.cut(5);
            x.undo();
            c.due("cut", Rings.seen(x), ahead);
            x.add(4);
            x.undo();
            c.due("added", Rings.seen(x), ahead);
        });
        e.edge(WHERE, "BOOK are as ahead of it;", c -> {
            RailingsCount x = Rings.withChildren(3);
            String ahead = Rings.seen(x);
            x.year(1);
            x.undo();
            c.due("a year", Rings.seen(x), ahead);
            x.ages(77, 40);
            x.undo();
            c.due("ages", Rings.seen(x), ahead);
        });
        e.edge(WHERE, "what was told since is as told).", c -> {
            RailingsCount x = Rings.withChildren(1);
            x.cut(3);
            x.bar(3, 2);
            x.paint(3, 5);
            x.bar(4, 0);
            x.add(4);
            x.year(1);
            x.child(9, 9);
            Check.rule(x, "paints 6;");
            x.tell(0, 12, 3);
            x.said(0, 1, 2);
            x.value(0, 44);
            c.due("two more", x.undo(), 2);
            c.due("one more", x.undo(), 1);
            c.due("told ahead of the addition", x.ofBar(4, 0), 0);
            c.due("none more", x.undo(), 0);
            c.due("the kind as told, not as ahead of the cut", x.ofBar(3, 0), 2);
            c.due("the paint as told", x.ofBar(3, 1), 5);
            c.due("the gap as told, not the bar ahead of all", x.ofBar(4, 0), 0);
            c.due("the child", x.about(0), 2);
            c.due("without a number", x.is(3), 3);
            c.due("THE TEXT", x.ofBar(0, 2), 6);
            c.due("telling", x.about(4), 1);
            c.due("said", x.about(5), 1);
            x.bar(0, 3);
            c.due("value", x.worth(0, 0, false), 44);
        });
    }
}
