/** Terms IV and V: strides, the shape of the ring, whose law it was, NUMBERS; AGES and THE IMAGE. */
final class EdgesOfTurns {
    private static final String FOUR = "Terms IV";
    private static final String FIVE = "Terms V";
    private static final int ALL = (1 << 30) - 1;

    private EdgesOfTurns() {
    }

    static void all(Edges e) {
        visits(e);
        meet(e);
        periodAndLeast(e);
        mirrors(e);
        longest(e);
        arcAndQuiet(e);
        changed(e);
        whose(e);
        numbers(e);
        paintAndBook(e);
        ages(e);
        whatAgesDo(e);
        image(e);
    }

    private static void visits(Edges e) {
        e.edge(FOUR, "VISITS of a CHILD from a PLACE: PLACES (bits) to which it comes by its STRIDE again and again, the first too.", c -> {
            RailingsCount x = new RailingsCount();
            int[] strides = {1, 9, 6, 5, 2, 7};
            for (int stride : strides) {
                x.child(stride, 0);
            }
            c.due("by 1", x.visits(0, 29), ALL);
            c.due("by 9: each third", x.visits(1, 29), 0x24924924);
            c.due("by 6 from 0", x.visits(2, 0), 1 | 1 << 6 | 1 << 12 | 1 << 18 | 1 << 24);
            c.due("by 6 from 29, the first too", x.visits(2, 29), 1 << 5 | 1 << 11 | 1 << 17 | 1 << 23 | 1 << 29);
            c.due("by 5", x.visits(3, 4), 1 << 4 | 1 << 9 | 1 << 14 | 1 << 19 | 1 << 24 | 1 << 29);
            c.due("by 2", x.visits(4, 28), 0x15555555);
            c.due("by 7", x.visits(5, 3), ALL);
        });
    }

    private static void meet(Edges e) {
        e.edge(FOUR, "MEET: two CHILDREN (one and the same, too) from two PLACES, each by its STRIDE at once", c -> {
            RailingsCount x = new RailingsCount();
            x.child(2, 0);
            x.child(5, 0);
            c.due("one and the same, at one place", x.meet(0, 7, 0, 7), 0);
            c.due("one and the same, at two", x.meet(0, 7, 0, 8), -1);
            // 6 + 2 i and 0 + 5 i
            c.due("the second comes up", x.meet(0, 6, 1, 0), 2);
            c.due("the first is the slower one", x.meet(1, 0, 0, 6), 2);
            c.due("round", x.meet(0, 2, 1, 29), 1);
        });
        e.edge(FOUR, ": behind how many (0 and more) they are at one PLACE first; never.", c -> {
            RailingsCount x = new RailingsCount();
            x.child(2, 0);
            x.child(3, 0);
            x.child(5, 0);
            c.due("0", x.meet(0, 29, 1, 29), 0);
            c.due("29, no more can be", x.meet(0, 0, 1, 1), 29);
            c.due("28", x.meet(0, 0, 1, 2), 28);
            c.due("by threes, never", x.meet(0, 0, 2, 1), -1);
            c.due("by threes, never", x.meet(0, 0, 2, 29), -1);
            c.due("by threes, first behind 9", x.meet(0, 0, 2, 3), 9);
        });
    }

    private static RailingsCount of(int... kinds) {
        RailingsCount x = new RailingsCount();
        for (int p = 0; p < 30; p++) {
            x.bar(p, kinds[p % kinds.length]);
        }
        return x;
    }

    private static void periodAndLeast(Edges e) {
        e.edge(FOUR, "PERIOD: the least turn (1 .. 30) by which all KINDS are as they are.", c -> {
            c.due("1", of(2).period(), 1);
            c.due("2", of(2, 1).period(), 2);
            c.due("3", of(2, 1, 1).period(), 3);
            c.due("5", of(2, 1, 1, 0, 3).period(), 5);
            c.due("6", of(1, 0, 1, 0, 1, 1).period(), 6);
            c.due("10", of(1, 0, 0, 0, 0, 1, 0, 0, 0, 2).period(), 10);
            c.due("15", of(1, 1, 1, 1, 1, 1, 1, 1, 1, 1, 1, 1, 1, 1, 3).period(), 15);
            RailingsCount x = of(2);
            x.bar(29, 3);
            c.due("30", x.period(), 30);
            RailingsCount y = of(2, 1, 1);
            y.bar(29, 0);
            c.due("nearly 3", y.period(), 30);
        });
        e.edge(FOUR, "LEAST TURN: the PLACE from which KINDS read on round are least, the first weighing most; of like ones the lowest.", c -> {
            c.due("all alike", of(3).least(), 0);
            c.due("by twos", of(3, 1).least(), 1);
            RailingsCount x = of(2);
            x.bar(29, 0);
            c.due("from the last round", x.least(), 29);
            x.bar(10, 0);
            c.due("from 29 the next gap is nearer", x.least(), 29);
            x.bar(11, 1);
            c.due("the second weighs more than all behind it", x.least(), 10);
            x.bar(0, 0);
            c.due("two gaps round", x.least(), 29);
            c.due("by fifteens the lowest", of(1, 1, 1, 1, 1, 1, 1, 0, 1, 1, 1, 1, 1, 1, 1).least(), 7);
        });
    }

    private static void mirrors(Edges e) {
        e.edge(FOUR, "MIRRORS: how many m (0 .. 29) there are, by which each PLACE p is of the KIND of (m - p) round.", c -> {
            c.due("all", of(0).mirrors(), 30);
            c.due("by twos", of(0, 1).mirrors(), 15);
            c.due("by threes, alike forth and back", of(0, 1, 1).mirrors(), 10);
            c.due("by threes, not alike", of(0, 1, 2).mirrors(), 0);
            RailingsCount x = of(2);
            x.bar(0, 1);
            c.due("one, by m 0", x.mirrors(), 1);
            x.bar(29, 1);
            c.due("two side by side, by m 29", x.mirrors(), 1);
            x.bar(14, 1);
            x.bar(15, 1);
            c.due("and opposite, by 29, 14", x.mirrors(), 2);
            x.bar(3, 0);
            c.due("and one more", x.mirrors(), 0);
        });
    }

    private static void longest(Edges e) {
        e.edge(FOUR, "LONGEST of a KIND: the most PLACES one behind the other round (30: all)", c -> {
            for (int kind = 0; kind <= 3; kind++) {
                c.due("all", of(kind).longest(kind, false), 30);
                c.due("from 0", of(kind).longest(kind, true), 0);
                RailingsCount x = of(kind);
                x.bar(9, kind == 0 ? 1 : 0);
                c.due("all but one", x.longest(kind, false), 29);
                c.due("behind it, round", x.longest(kind, true), 10);
            }
        });
        e.edge(FOUR, "; the lowest PLACE from which on there are so many; none.", c -> {
            RailingsCount x = of(2);
            for (int p : new int[] {29, 0, 10, 11, 20}) {
                x.bar(p, 1);
            }
            c.due("two", x.longest(1, false), 2);
            c.due("the lowest", x.longest(1, true), 10);
            x.bar(28, 1);
            c.due("three round", x.longest(1, false), 3);
            c.due("from", x.longest(1, true), 28);
            c.due("none: how many", x.longest(3, false), 0);
            c.due("none: from", x.longest(3, true), -1);
        });
    }

    private static void arcAndQuiet(Edges e) {
        e.edge(FOUR, "RICHEST ARC: the PLACE from which on n PLACES have most bars; of like ones the lowest.", c -> {
            RailingsCount x = of(2);
            for (int p : new int[] {29, 0, 1, 10, 11}) {
                x.bar(p, 1);
            }
            c.due("1: the lowest", x.arc(1), 0);
            c.due("2: the lowest", x.arc(2), 0);
            c.due("3: round", x.arc(3), 29);
            c.due("4: the lowest", x.arc(4), 28);
            c.due("12: from 0, four", x.arc(12), 0);
            c.due("13: from 29, five", x.arc(13), 29);
            c.due("30: all alike", x.arc(30), 0);
            c.due("no bar", of(3).arc(1), 0);
        });
        e.edge(FOUR, "QUIET: from how many PLACES on n PLACES have no bar.", c -> {
            RailingsCount x = of(0, 2, 3);
            c.due("no bar, 1", x.quiet(1), 30);
            c.due("no bar, 30", x.quiet(30), 30);
            x.bar(0, 1);
            c.due("one bar, 1", x.quiet(1), 29);
            c.due("one bar, 29", x.quiet(29), 1);
            c.due("one bar, 30", x.quiet(30), 0);
            c.due("all bars, 1", of(1).quiet(1), 0);
        });
    }

    private static void changed(Edges e) {
        e.edge(FOUR, "CHANGED: PLACES (bits) whose KIND isn't as in THE IMAGE.", c -> {
            RailingsCount x = new RailingsCount();
            c.due("none", x.changed(), 0);
            x.paint(3, 3);
            c.due("paint is nothing to it", x.changed(), 0);
            x.bar(0, 0);
            x.bar(29, 3);
            x.cut(7);
            c.due("0, 7, 29", x.changed(), 1 | 1 << 7 | 1 << 29);
            x.add(7);
            c.due("7 is as it was", x.changed(), 1 | 1 << 29);
            for (int p = 0; p < 30; p++) {
                x.bar(p, 2);
            }
            c.due("all", x.changed(), ALL);
            x.image();
            c.due("none by the new image", x.changed(), 0);
        });
    }

    private static void whose(Edges e) {
        e.edge(FOUR, "WHOSE LAW (told: SAID, 8 at most: a CHILD, a PLACE, catches 0 .. 10 of it as the first one counted)", c -> {
            RailingsCount x = Rings.withChildren(2);
            int[][] wrong = {{-2, 0, 0}, {2, 0, 0}, {7, 0, 0}, {0, -1, 0}, {0, 30, 0}, {0, 0, -1}, {0, 0, 11},
                {Rings.MIN, 0, 0}, {Rings.MAX, 0, 0}, {0, Rings.MIN, 0}, {0, Rings.MAX, 0}, {0, 0, Rings.MIN}, {0, 0, Rings.MAX}};
            for (int[] s : wrong) {
                c.due("said(" + s[0] + ", " + s[1] + ", " + s[2] + ")", x.said(s[0], s[1], s[2]), -2);
            }
            c.due("none", x.about(5), 0);
            for (int i = 1; i <= 8; i++) {
                c.due("said " + i, x.said(i % 2, i % 2 * 29, i % 2 * 10), i);
            }
            c.due("no ninth", x.said(0, 0, 0), -2);
            c.due("eight", x.about(5), 8);
            RailingsCount y = Rings.withChildren(1);
            Check.read(y, "catches count;");
            Check.read(y, "catches count + 1;");
            y.said(0, 3, 1);
            c.due("as the first one counted", y.whose(), 1);
        });
        e.edge(FOUR, ": TEXTS (bits) by whose catches all are so (as now).", c -> {
            RailingsCount x = new RailingsCount();
            x.child(1, 4);
            x.child(1, 5);
            c.due("no text", x.whose(), 0);
            Check.read(x, "catches luck;");
            Check.read(x, "paints 4;");
            Check.read(x, "catches 4 + year;");
            Check.read(x, "catches 99;");
            c.due("nothing said", x.whose(), 15);
            x.said(0, 7, 4);
            c.due("luck, 4 + 0", x.whose(), 1 | 4);
            x.said(1, 7, 5);
            c.due("all are so", x.whose(), 1);
            x.said(-1, 0, 0);
            x.said(1, 3, 1);
            c.due("without catches it is 1", x.whose(), 2);
            x.said(-1, 0, 0);
            x.said(1, 3, 10);
            c.due("10 at most", x.whose(), 8);
            x.said(-1, 0, 0);
            x.said(0, 7, 6);
            c.due("none", x.whose(), 0);
            x.year(2);
            c.due("as now", x.whose(), 4);
            RailingsCount y = Rings.withChildren(1);
            Check.read(y, "catches place - 20;");
            y.said(0, 27, 7);
            c.due("by the place", y.whose(), 1);
            y.said(0, 28, 7);
            c.due("by each place", y.whose(), 0);
        });
    }

    /** Children of these lucks, each of whom counts as many as its luck says (9 at most, 0 by a spike). */
    private static RailingsCount byLuck(int... lucks) {
        RailingsCount x = new RailingsCount();
        Check.rule(x, "catches if count = luck then 10 else 0 end;");
        for (int luck : lucks) {
            x.child(1, luck);
        }
        x.bar(20, 3);
        return x;
    }

    private static void numbers(Edges e) {
        e.edge(FOUR, "GREATEST: the CHILD of greatest NUMBER; of like ones the lowest; none (none has one).", c -> {
            c.due("nobody", new RailingsCount().greatest(), -1);
            RailingsCount x = byLuck(1, 3, 9, 9, 2);
            c.due("none has one", x.greatest(), -1);
            x.run(0, 20);
            c.due("0 is a NUMBER", x.greatest(), 0);
            x.run(4, 0);
            c.due("2", x.greatest(), 4);
            x.run(1, 0);
            x.run(3, 0);
            c.due("9", x.greatest(), 3);
            x.run(2, 0);
            c.due("the lowest of 9", x.greatest(), 2);
            RailingsCount seven = byLuck(1, 2, 3, 4, 5, 6, 7);
            for (int i = 0; i < 7; i++) {
                seven.run(i, 0);
                c.due("of " + (i + 1), seven.greatest(), i);
            }
        });
        e.edge(FOUR, "TWINS: how many pairs have like NUMBERS.", c -> {
            RailingsCount x = byLuck(4, 4, 4, 4, 4, 4, 4);
            c.due("none has one", x.twins(), 0);
            for (int i = 0; i < 7; i++) {
                x.run(i, 0);
                c.due("pairs of " + (i + 1), x.twins(), i * (i + 1) / 2);
            }
            RailingsCount y = byLuck(3, 4, 3, 4, 5);
            for (int i = 0; i < 5; i++) {
                y.run(i, 0);
            }
            c.due("two pairs", y.twins(), 2);
            RailingsCount z = byLuck(3, 4, 5);
            z.run(0, 20);
            z.run(2, 20);
            c.due("two of 0, one of none", z.twins(), 1);
        });
        e.edge(FOUR, "ODD: CHILDREN (bits) of odd NUMBERS.", c -> {
            RailingsCount x = byLuck(1, 2, 3, 4, 5, 6, 9);
            c.due("none has one", x.odd(), 0);
            x.run(6, 0);
            c.due("the last", x.odd(), 64);
            for (int i = 0; i < 6; i++) {
                x.run(i, i == 2 ? 20 : 0);
            }
            c.due("1, 5, 9; 0 is not odd", x.odd(), 1 | 16 | 64);
        });
    }

    private static void paintAndBook(Edges e) {
        e.edge(FOUR, "THICKEST: the PLACE of most PAINT; of like ones the lowest.", c -> {
            RailingsCount x = new RailingsCount();
            c.due("all alike", x.thickest(), 0);
            x.bar(29, 3);
            x.paint(29, 1);
            c.due("the last", x.thickest(), 29);
            x.paint(12, 2);
            x.paint(20, 2);
            c.due("the lowest", x.thickest(), 12);
            x.paint(0, 2);
            c.due("0", x.thickest(), 0);
        });
        e.edge(FOUR, "BY THE BOOK: NUMBERS of all runs of a CHILD together (NONE: of all).", c -> {
            RailingsCount x = byLuck(4, 7, 9);
            c.due("of all, none", x.ledger(-1), 0);
            x.run(0, 0);
            x.run(1, 0);
            c.due("of the first", x.ledger(0), 4);
            c.due("of the second", x.ledger(1), 7);
            c.due("of one without a run", x.ledger(2), 0);
            c.due("of all", x.ledger(-1), 11);
            x.undo();
            c.due("taken back", x.ledger(-1), 4);
        });
    }

    private static void ages(Edges e) {
        e.edge(FIVE, "AGES by a SEED: X is SEED (0 .. 9999) * 2 + 263; n times (1 .. 40)", c -> {
            RailingsCount x = new RailingsCount();
            x.ages(0, 1);
            c.due("by 0", x.is(1), Rings.drawn(263, 1));
            x.ages(9999, 1);
            c.due("by 9999", x.is(1), Rings.drawn(9999 * 2 + 263, 1));
            x.ages(4, 40);
            c.due("forty times", x.is(1), Rings.drawn(271, 40));
            c.due("seed -1", x.ages(-1, 1), -1);
            c.due("seed 10000", x.ages(10000, 1), -1);
            c.due("0 times", x.ages(0, 0), -1);
            c.due("41 times", x.ages(0, 41), -1);
            c.due("nothing is done", x.is(1), Rings.drawn(271, 40));
        });
        e.edge(FIVE, ": x is X, X anew (as in a draw)", c -> {
            RailingsCount x = new RailingsCount();
            // 263: mod 6 is 5; 9914: mod 6 is 2, 9914 / 6 mod 30 is 2
            c.due("a year first", x.ages(0, 2), 1);
            c.due("then a cut", x.changed(), 4);
            c.due("which was painted", x.ofBar(2, 1), 1);
            c.due("X", x.is(1), 15189);
        });
    }

    /** The least seed by which x mod 6 is first and then second. */
    private static int seedFor(int first, int second) {
        int seed = 0;
        while ((seed * 2 + 263) % 6 != first || Rings.drawn(seed * 2 + 263, 1) % 6 != second) {
            seed++;
        }
        return seed;
    }

    private static void whatAgesDo(Edges e) {
        e.edge(FIVE, ": x mod 6: 0, 1 CHILD x mod how many RUNS from x / 6 mod 30", c -> {
            // 22 * 2 + 263 = 307: mod 6 is 1, mod 5 is 2, 307 / 6 mod 30 is 21
            RailingsCount x = Rings.withChildren(5);
            x.ages(22, 1);
            c.due("child", x.book(0, 1), 2);
            c.due("place", x.book(0, 2), 21);
            c.due("X, drawn by the run too", x.is(1), Rings.drawn(307, 1 + x.of(2, 2)));
            RailingsCount one = Rings.withChildren(1);
            one.ages(22, 1);
            c.due("the only one", one.book(0, 2), 21);
        });
        e.edge(FIVE, "0, 1 CHILD", c -> {
            // x is odd at first, so that 0 comes behind another: 3, which does nothing here, as no gap is there
            int seed = seedFor(3, 0);
            int second = Rings.drawn(seed * 2 + 263, 1);
            RailingsCount x = Rings.withChildren(7);
            x.ages(seed, 2);
            c.due("one run", x.book(-1, 0), 1);
            c.due("child", x.book(0, 1), second % 7);
            c.due("place", x.book(0, 2), second / 6 % 30);
        });
        e.edge(FIVE, "; 2 PLACE x / 6 mod 30 is CUT; 3 it is ADDED (each if it can be)", c -> {
            // all x are odd at first: 15 * 2 + 263 = 293 is 5, 17: 297 is 3, and 297 / 6 mod 30 is 19
            RailingsCount x = new RailingsCount();
            x.ages(17, 1);
            c.due("a bar can't be added", x.changed(), 0);
            x.bar(19, 0);
            x.paint(19, 6);
            x.ages(17, 1);
            c.due("a gap can", x.changed(), 0);
            c.due("without paint", x.ofBar(19, 1), 0);
            x.bar(19, 2);
            x.ages(17, 1);
            c.due("a gate can't", x.ofBar(19, 0), 2);
            // 263: a year; 9914: place 2 is cut
            for (int kind = 0; kind <= 3; kind++) {
                RailingsCount y = new RailingsCount();
                y.bar(2, kind);
                y.ages(0, 2);
                c.due("kind " + kind, y.ofBar(2, 0), kind == 1 ? 0 : kind);
            }
            // a child that has its NUMBER can't run
            RailingsCount z = Rings.withChildren(5);
            z.run(2, 0);
            z.ages(22, 1);
            c.due("it has a NUMBER", z.book(-1, 0), 1);
            c.due("no draw by it", z.is(1), Rings.drawn(307, 1));
        });
        e.edge(FIVE, "; 4, 5 a YEAR (if it can pass).", c -> {
            RailingsCount x = Rings.withChildren(2);
            // 263: mod 6 is 5
            c.due("5", x.ages(0, 1), 1);
            c.due("who had none ran", x.is(3), 0);
            c.due("paint", x.ofBar(0, 1), 1);
            c.due("4", x.ages(seedFor(3, 4), 2), 2);
            RailingsCount last = Rings.inLastYear();
            last.child(1, 1);
            int paint = last.ofBar(0, 1);
            c.due("none can pass", last.ages(0, 1), 9999);
            c.due("nobody ran", last.is(3), 1);
            c.due("no paint", last.ofBar(0, 1), paint);
        });
        e.edge(FIVE, "What there are none of isn't.", c -> {
            RailingsCount x = new RailingsCount();
            String ahead = Rings.seen(x);
            c.due("no child", x.ages(22, 1), 0);
            c.due("no run", x.book(-1, 0), 0);
            c.due("X, by no run", x.is(1), Rings.drawn(307, 1));
            x.undo();
            c.due("all else", Rings.seen(x), ahead);
        });
        e.edge(FIVE, "It is one STEP: YEAR.", c -> {
            RailingsCount x = Rings.withChildren(7);
            x.year(1);
            x.undo();
            String ahead = Rings.seen(x);
            int year = x.ages(3, 40);
            c.due("YEAR", year, x.is(0));
            c.due("some passed", year > 1, true);
            c.due("one step", x.about(3), 1);
            c.due("taken back at once", x.undo(), 0);
            c.due("all is as it was", Rings.seen(x), ahead);
        });
    }

    private static void image(Edges e) {
        e.edge(FIVE, "AN IMAGE: all as it is, but the tape and the latest FAULT.", c -> {
            RailingsCount x = new RailingsCount();
            Check.read(x, "cut");
            x.image();
            Check.tape(x, "cut 30;  ");
            x.text();
            Check.tape(x, "cut 1");
            x.back();
            c.due("the tape stays", x.about(6), 5);
            c.due("the fault stays", x.fault(0), 2);
            c.due("its place stays", x.fault(1), 4);
        });
        e.edge(FIVE, "BACK: all is so again.", c -> {
            RailingsCount x = Rings.railing(5, "paints 3;");
            x.child(2, 3);
            x.paint(6, 5);
            x.value(0, 40);
            x.tell(0, 12, 0);
            x.said(0, 1, 2);
            x.run(1, 0);
            x.year(1);
            x.image();
            String ahead = Rings.seen(x);
            x.undo();
            x.undo();
            x.bar(5, 1);
            x.bar(7, 3);
            x.paint(6, 1);
            x.child(9, 9);
            x.year(40);
            x.ages(3, 40);
            Check.rule(x, "paints 8;");
            Check.read(x, "paints 9;");
            x.value(0, 0);
            x.tell(-1, 0, 0);
            x.tell(0, 12, 12);
            x.said(-1, 0, 0);
            x.back();
            c.due("all that is seen", Rings.seen(x), ahead);
            c.due("the law", x.ofBar(0, 2), 3);
            c.due("the value", x.worth(0, 5, false), 40);
            c.due("the telling", x.could(0, 2), 4095);
            c.due("what was said", x.whose(), 0);
            c.due("the steps", x.undo(), 1);
            c.due("are those", x.is(0), 0);
            c.due("to the first", x.undo(), 0);
            c.due("ahead of the run", x.is(3), 3);
            c.due("the kind, as told ahead of the image", x.ofBar(7, 0), 1);
            x.back();
            c.due("again", Rings.seen(x), ahead);
        });
    }
}
