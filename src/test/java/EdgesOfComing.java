/** Terms III: what comes, how likely it is, what it is worth, what nobody knows and which one sings. */
final class EdgesOfComing {
    private static final String WHERE = "Terms III";

    private EdgesOfComing() {
    }

    static void all(Edges e) {
        changesNothing(e);
        foretold(e);
        likely(e);
        start(e);
        mean(e);
        which(e);
        nth(e);
        values(e);
        worth(e);
        goesOn(e);
        best(e);
        tellings(e);
        ways(e);
        whereToRun(e);
        sings(e);
    }

    static void likelyIs(Check c, RailingsCount x, int from, int n, long upper, long lower) {
        c.due("likely from " + from + " just " + n + ", upper", x.likely(0, from, n, false), upper);
        c.due("likely from " + from + " just " + n + ", lower", x.likely(0, from, n, true), lower);
    }

    static void meanIs(Check c, RailingsCount x, int from, long upper, long lower) {
        c.due("mean from " + from + ", upper", x.mean(0, from, false), upper);
        c.due("mean from " + from + ", lower", x.mean(0, from, true), lower);
    }

    static void worthIs(Check c, RailingsCount x, int from, long upper, long lower) {
        c.due("worth from " + from + ", upper", x.worth(0, from, false), upper);
        c.due("worth from " + from + ", lower", x.worth(0, from, true), lower);
    }

    private static void changesNothing(Edges e) {
        e.edge(WHERE, "All that follows changes nothing.", c -> {
            RailingsCount x = Rings.railing(9, "catches kinds(place + 1) + count;paints 2;");
            x.child(3, 3);
            x.run(0, 0);
            x.cut(20);
            x.image();
            x.add(20);
            x.tell(0, 12, 4);
            x.said(1, 2, 3);
            String ahead = Rings.seen(x);
            askAll(x);
            c.due("all is as it was", Rings.seen(x), ahead);
            c.due("a step can be taken back", x.undo(), 2);
            c.due("it was the addition", x.ofBar(20, 0), 0);
        });
    }

    private static void askAll(RailingsCount x) {
        x.foretold(60, 1);
        x.likely(1, 3, 4, true);
        x.start(1, 2);
        x.mean(1, 3, true);
        x.which(1, 3, 4);
        x.nth(3, 4);
        x.worth(1, 3, true);
        x.goesOn(1, 3, 2);
        x.best(1);
        for (int what = 0; what <= 2; what++) {
            x.could(1, what);
        }
        x.ask(1);
        x.sings(2, 20, true);
        x.visits(1, 4);
        x.meet(0, 3, 1, 8);
        x.period();
        x.least();
        x.mirrors();
        x.longest(1, true);
        x.arc(5);
        x.quiet(2);
        x.changed();
        x.whose();
        x.greatest();
        x.twins();
        x.odd();
        x.thickest();
        x.ledger(-1);
    }

    private static void foretold(Edges e) {
        e.edge(WHERE, "FORETOLD behind n YEARS (1 .. 60; those that can pass)", c -> {
            RailingsCount x = Rings.withChildren(2);
            // from 263 mod 30 = 23 fourteen draws of 9 and less than 1 at the last; then eighteen
            c.due("1", x.foretold(1, 0), 14);
            c.due("60", x.foretold(60, 1), 18);
            c.due("0", x.foretold(0, 0), -2);
            c.due("61", x.foretold(61, 0), -2);
            RailingsCount y = Rings.inYear(9998);
            y.child(1, 1);
            c.due("one of sixty can pass", y.foretold(60, 0), 14);
            y.child(1, 1);
            y.year(1);
            y.child(1, 1);
            c.due("none can pass", y.foretold(60, 2), -1);
            c.due("it has its NUMBER", y.foretold(60, 0), 14);
        });
        e.edge(WHERE, ", nothing else being done: the NUMBER of a CHILD (NONE: none yet).", c -> {
            RailingsCount x = Rings.withChildren(3);
            x.run(1, 4);
            int first = x.foretold(5, 0);
            int third = x.foretold(5, 2);
            c.due("its NUMBER for life", x.foretold(5, 1), x.of(1, 2));
            c.due("nobody has run", x.is(3), 5);
            x.year(5);
            c.due("as foretold, the first", x.of(0, 2), first);
            c.due("as foretold, the third", x.of(2, 2), third);
            RailingsCount last = Rings.inLastYear();
            last.child(1, 1);
            c.due("none yet", last.foretold(1, 0), -1);
        });
    }

    private static void likely(Edges e) {
        e.edge(WHERE, "LIKELY: how likely a RUN of a CHILD from a PLACE now (whether it has a NUMBER or not)", c -> {
            RailingsCount x = Rings.railing(2, "catches count + 2;");
            likelyIs(c, x, 0, 1, 3, 10);
            x.run(0, 0);
            likelyIs(c, x, 0, 1, 3, 10);
            likelyIs(c, x, 0, 2, 7, 10);
            Check.rule(x, "catches year;");
            likelyIs(c, x, 0, 1, 0, 1);
            x.year(2);
            likelyIs(c, x, 0, 1, 1, 5);
        });
        e.edge(WHERE, "counts just n (0 .. 12)", c -> {
            RailingsCount x = Rings.railing(13, "");
            likelyIs(c, x, 13, 0, 1, 1);
            likelyIs(c, x, 0, 0, 0, 1);
            likelyIs(c, x, 13, 1, 0, 1);
            likelyIs(c, x, 0, 12, 31381059609L, 1000000000000L);
            // of the last bar it is all the same whether it catches
            likelyIs(c, x, 1, 12, 31381059609L, 100000000000L);
            likelyIs(c, x, 2, 12, 0, 1);
            c.due("13", x.likely(0, 0, 13, false), -1);
            c.due("-1", x.likely(0, 0, -1, false), -1);
            likelyIs(c, Rings.gates(7), 8, 1, 1, 10);
            likelyIs(c, Rings.gates(7), 8, 2, 9, 10);
            likelyIs(c, Rings.gates(7), 8, 3, 0, 1);
            likelyIs(c, Rings.gates(), 8, 0, 1, 1);
            likelyIs(c, Rings.railing(3, "catches 10;"), 0, 1, 1, 1);
            likelyIs(c, Rings.railing(3, "catches 10;"), 0, 3, 0, 1);
            likelyIs(c, Rings.railing(3, "catches 0;"), 0, 3, 1, 1);
        });
        e.edge(WHERE, "(0 .. 12), in lowest terms.", c -> {
            likelyIs(c, Rings.railing(5, "catches 5;"), 0, 1, 1, 2);
            likelyIs(c, Rings.railing(5, "catches 5;"), 0, 4, 1, 16);
            likelyIs(c, Rings.railing(5, "catches 4;"), 0, 2, 6, 25);
            likelyIs(c, Rings.railing(5, "catches 3;"), 0, 2, 21, 100);
            likelyIs(c, Rings.railing(5, "catches 0;"), 0, 2, 0, 1);
        });
    }

    private static void start(Edges e) {
        e.edge(WHERE, "A START for n: the PLACE from which that is likeliest; of like ones the lowest", c -> {
            RailingsCount x = Rings.railing(5, "");
            c.due("0: the spike", x.start(0, 0), 5);
            c.due("1: the one ahead of it", x.start(0, 1), 4);
            c.due("6: round from 29", x.start(0, 6), 29);
            c.due("12: just so many ahead of it", x.start(0, 12), 23);
            x.bar(20, 3);
            c.due("0: two spikes, the lowest", x.start(0, 0), 5);
            c.due("1: ahead of each, the lowest", x.start(0, 1), 4);
            c.due("the lowest of all", Rings.railing(5, "catches 10;").start(0, 1), 0);
        });
        e.edge(WHERE, "the lowest; none (from none it can be).", c -> {
            c.due("0 without a spike", Rings.withChildren(1).start(0, 0), -1);
            c.due("2, caught by the first", Rings.railing(5, "catches 10;").start(0, 2), -1);
            c.due("3, the one bar twice", Rings.gates(7).start(0, 3), -1);
            c.due("12, caught by none of sixty", Rings.railing(13, "catches 0;").start(0, 12), 1);
            RailingsCount all = Rings.withChildren(1);
            Check.rule(all, "catches 0;");
            c.due("12 of sixty", all.start(0, 12), -1);
        });
    }

    private static void mean(Edges e) {
        e.edge(WHERE, "MEAN: NUMBER of such a RUN on the mean, in lowest terms", c -> {
            // 3/10 * 1 + 7/10 * 2
            RailingsCount x = Rings.railing(2, "catches 3;");
            meanIs(c, x, 0, 17, 10);
            meanIs(c, x, 1, 1, 1);
            meanIs(c, x, 2, 0, 1);
            x.run(0, 0);
            meanIs(c, x, 0, 17, 10);
            meanIs(c, Rings.railing(2, "catches 5;"), 0, 3, 2);
            meanIs(c, Rings.railing(5, "catches 10;"), 0, 1, 1);
            meanIs(c, Rings.railing(5, "catches 0;"), 0, 5, 1);
            meanIs(c, Rings.gates(7), 7, 19, 10);
        });
        e.edge(WHERE, "(not, if it would meet more than 12 bars).", c -> {
            RailingsCount x = Rings.railing(13, "catches 0;");
            meanIs(c, x, 0, -1, -1);
            meanIs(c, x, 1, 12, 1);
            // (1 - 9^12 / 10^12) * 10
            meanIs(c, Rings.railing(12, ""), 0, 717570463519L, 100000000000L);
            RailingsCount round = Rings.gates(1, 5, 9, 13, 17, 21);
            Check.rule(round, "catches 0;");
            meanIs(c, round, 0, 12, 1);
            round.bar(29, 1);
            meanIs(c, round, 0, -1, -1);
        });
    }

    private static void which(Edges e) {
        e.edge(WHERE, "WHICH TO CUT: the bar by which, were it CUT now, n (0 .. 12) would be likeliest; of like ones the lowest", c -> {
            RailingsCount x = Rings.railing(13, "");
            c.due("0 from the last bar", x.which(0, 12, 0), 12);
            c.due("12 of 13: all alike", x.which(0, 0, 12), 0);
            c.due("-1", x.which(0, 0, -1), -1);
            c.due("13", x.which(0, 0, 13), -1);
            // c is 0 9 2 3: likely 3 is 1/10 * 2/10; without 0: 1/10 * 8/10; without 1: 8/10; without 2 or 3: 1/10
            c.due("not the lowest", Rings.railing(4, "catches if place = 1 then 9 else place end;").which(0, 0, 3), 1);
            c.due("one that is not on the way", Rings.railing(4, "catches if kinds 20 = 0 then 10 else 0 end;").which(0, 0, 1), 20);
            c.due("a bar that is met twice", Rings.gates(7).which(0, 0, 0), 7);
            c.due("the last place", Rings.gates(29).which(0, 0, 0), 29);
        });
        e.edge(WHERE, "; none (by none is it likelier than it is).", c -> {
            RailingsCount x = Rings.railing(4, "");
            c.due("4 of 4", x.which(0, 0, 4), -1);
            c.due("5 of 4", x.which(0, 0, 5), -1);
            c.due("0 from the spike: it is sure", x.which(0, 4, 0), -1);
            c.due("no bar", Rings.gates().which(0, 0, 0), -1);
            c.due("as likely, not likelier", Rings.railing(4, "catches 10;").which(0, 0, 1), -1);
        });
    }

    private static void nth(Edges e) {
        e.edge(WHERE, "THE N-TH (1 .. 60): the PLACE of the n-th bar a RUN from a PLACE would meet, were it caught by none", c -> {
            RailingsCount x = Rings.withChildren(1);
            Check.rule(x, "catches 10;");
            c.due("the first", x.nth(7, 1), 7);
            c.due("the sixtieth", x.nth(7, 60), 6);
            c.due("round", x.nth(29, 2), 0);
            c.due("0", x.nth(7, 0), -1);
            c.due("61", x.nth(7, 61), -1);
        });
        e.edge(WHERE, "were it caught by none; none.", c -> {
            RailingsCount x = Rings.gates(7, 9);
            c.due("twice round", x.nth(8, 4), 7);
            c.due("no fifth", x.nth(8, 5), -1);
            c.due("from a bar, twice round", x.nth(7, 3), 7);
            c.due("from a bar, not a third time", x.nth(7, 5), -1);
            x.bar(8, 3);
            c.due("ahead of a spike", x.nth(0, 1), 7);
            c.due("behind it", x.nth(0, 2), -1);
            c.due("from it", x.nth(8, 1), -1);
            c.due("no bar", Rings.gates().nth(0, 1), -1);
        });
    }

    private static void values(Edges e) {
        e.edge(WHERE, "WORTH: VALUES (told for 0 .. 12, 0 .. 99; at first the number itself)", c -> {
            for (int n = 0; n <= 12; n++) {
                RailingsCount x = Rings.railing(n, "catches 0;");
                worthIs(c, x, 0, n, 1);
                c.due("value(" + n + ", 99)", x.value(n, 99), true);
                worthIs(c, x, 0, 99, 1);
                c.due("value(" + n + ", 100)", x.value(n, 100), false);
                c.due("value(" + n + ", -1)", x.value(n, -1), false);
                worthIs(c, x, 0, 99, 1);
                c.due("value(" + n + ", 0)", x.value(n, 0), true);
                worthIs(c, x, 0, Math.max(0, n - 1), 1);
            }
            c.due("value(13, 1)", new RailingsCount().value(13, 1), false);
            c.due("value(-1, 1)", new RailingsCount().value(-1, 1), false);
        });
    }

    private static void worth(Edges e) {
        e.edge(WHERE, ": a CHILD may stop of itself, having counted k, for VALUE k, or go on; whoever is caught has 0", c -> {
            // 1 for sure of 9/10, 2 of 81/100, 3 of 729/1000
            RailingsCount x = Rings.railing(3, "");
            worthIs(c, x, 0, 2187, 1000);
            x.value(2, 9);
            worthIs(c, x, 0, 729, 100);
            x.value(0, 8);
            worthIs(c, x, 0, 8, 1);
            worthIs(c, Rings.railing(3, "catches 10;"), 0, 0, 1);
            RailingsCount half = Rings.railing(1, "catches 5;");
            worthIs(c, half, 0, 1, 2);
            half.value(1, 99);
            worthIs(c, half, 0, 99, 2);
        });
        e.edge(WHERE, "; at a spike, behind 60 PLACES, and having counted 12, it stops", c -> {
            RailingsCount spike = Rings.railing(2, "catches 0;");
            spike.value(3, 99);
            worthIs(c, spike, 0, 2, 1);
            spike.value(0, 7);
            worthIs(c, spike, 2, 7, 1);
            RailingsCount round = Rings.gates(7);
            Check.rule(round, "catches 0;");
            round.value(3, 99);
            worthIs(c, round, 8, 2, 1);
            RailingsCount all = Rings.withChildren(1);
            Check.rule(all, "catches if count > 12 then 10 else 0 end;");
            worthIs(c, all, 0, 12, 1);
            all.value(12, 3);
            worthIs(c, all, 0, 11, 1);
            worthIs(c, Rings.gates(), 0, 0, 1);
        });
        e.edge(WHERE, ": the most on the mean from a PLACE, in lowest terms.", c -> {
            RailingsCount x = Rings.withChildren(1);
            // 9 * 9^9 / 10^9 and 10 * 9^10 / 10^10 are alike, and the most
            worthIs(c, x, 0, 3486784401L, 1000000000L);
            x.value(12, 99);
            worthIs(c, x, 0, 99L * 282429536481L, 1000000000000L);
            worthIs(c, Rings.railing(2, "catches 5;"), 0, 1, 2);
            worthIs(c, Rings.railing(2, "catches 4;"), 0, 18, 25);
        });
    }

    private static void goesOn(Edges e) {
        e.edge(WHERE, "It goes on, having counted k (0 .. 11), if the mean by that is more than VALUE k", c -> {
            RailingsCount x = Rings.railing(1, "");
            x.value(1, 10);
            x.value(0, 8);
            c.due("9 is more than 8", x.goesOn(0, 0, 0), 1);
            x.value(0, 9);
            c.due("9 is not more than 9", x.goesOn(0, 0, 0), 0);
            x.value(0, 10);
            c.due("9 is less than 10", x.goesOn(0, 0, 0), 0);
            RailingsCount all = Rings.withChildren(1);
            c.due("11 for 10.8", all.goesOn(0, 0, 11), 0);
            all.value(12, 13);
            c.due("11 for 11.7", all.goesOn(0, 0, 11), 1);
            c.due("12", all.goesOn(0, 0, 12), -1);
            c.due("-1", all.goesOn(0, 0, -1), -1);
            // 9 * 9/10 is less than 9, but two bars on there is more
            RailingsCount far = Rings.railing(3, "");
            far.value(1, 50);
            far.value(2, 0);
            far.value(3, 99);
            c.due("50 for 99 * 81/100", far.goesOn(0, 0, 1), 1);
        });
        e.edge(WHERE, "(none: there are not so many bars ahead of a spike and within 60 PLACES, or none behind these).", c -> {
            RailingsCount x = Rings.railing(3, "");
            c.due("2 of 3", x.goesOn(0, 0, 2), 1);
            c.due("3 of 3: none behind these", x.goesOn(0, 0, 3), -1);
            c.due("4 of 3: not so many", x.goesOn(0, 0, 4), -1);
            c.due("at a spike", x.goesOn(0, 3, 0), -1);
            RailingsCount round = Rings.gates(7);
            c.due("1 of 2 twice round", round.goesOn(0, 0, 1), 1);
            c.due("2 of 2 twice round", round.goesOn(0, 0, 2), -1);
            c.due("no bar", Rings.gates().goesOn(0, 0, 0), -1);
            c.due("caught for sure, but they are there", Rings.railing(3, "catches 10;").goesOn(0, 0, 2), 0);
        });
    }

    private static void best(Edges e) {
        e.edge(WHERE, "BEST START: the PLACE of most WORTH; of like ones the lowest.", c -> {
            RailingsCount x = Rings.withChildren(1);
            c.due("all alike", x.best(0), 0);
            x.bar(5, 3);
            // nine bars and more are worth alike: that is so from 6 .. 26
            c.due("behind the spike", x.best(0), 6);
            c.due("from the last place", lastIsBest().best(0), 29);
            RailingsCount two = Rings.gates(4, 19);
            two.bar(5, 3);
            two.bar(20, 3);
            c.due("like ones", two.best(0), 0);
            two.bar(0, 3);
            c.due("the first that meets the bar", two.best(0), 1);
            c.due("nothing to have", Rings.gates().best(0), 0);
        });
    }

    /** Two bars at 29 and 0 ahead of a spike, none elsewhere, caught by none; one less from each other PLACE. */
    private static RailingsCount lastIsBest() {
        RailingsCount x = Rings.gates(29, 0);
        x.bar(1, 3);
        x.bar(28, 3);
        Check.rule(x, "catches 0;");
        return x;
    }

    private static void tellings(Edges e) {
        e.edge(WHERE, "COULD BE: PLACES 0 .. 11 being bars or not, as nobody knows", c -> {
            RailingsCount x = Rings.gates();
            c.due("two to the twelfth", x.could(0, 0), 4096);
            x.tell(0, 12, 12);
            c.due("whatever the ring is", x.could(0, 1), 4095);
        });
        e.edge(WHERE, ": TELLINGS (6 at most; told: from a PLACE 0 .. 11 on n of them, within 11, there were so many bars, 0 .. 12)", c -> {
            RailingsCount x = new RailingsCount();
            int[][] wrong = {{-2, 1, 0}, {12, 1, 0}, {12, 0, 0}, {0, 0, 0}, {0, -1, 0}, {0, 13, 0}, {11, 2, 0}, {6, 7, 0},
                {0, 12, -1}, {0, 12, 13}, {Rings.MIN, 1, 0}, {Rings.MAX, 1, 0}, {1, Rings.MAX, 0}, {0, Rings.MIN, 0},
                {0, 1, Rings.MIN}, {0, 1, Rings.MAX}};
            for (int[] t : wrong) {
                c.due("tell(" + t[0] + ", " + t[1] + ", " + t[2] + ")", x.tell(t[0], t[1], t[2]), -2);
            }
            c.due("none", x.about(4), 0);
            int[][] right = {{0, 12, 0}, {0, 12, 12}, {11, 1, 0}, {6, 6, 12}, {0, 1, 1}, {11, 1, 12}};
            for (int i = 0; i < right.length; i++) {
                c.due("the telling " + i, x.tell(right[i][0], right[i][1], right[i][2]), i + 1);
            }
            c.due("no seventh", x.tell(0, 12, 0), -2);
            c.due("six", x.about(4), 6);
        });
    }

    private static void ways(Edges e) {
        e.edge(WHERE, ", each out by err (0 .. 2) at most", c -> {
            RailingsCount x = new RailingsCount();
            x.tell(0, 12, 0);
            c.due("0", x.could(0, 0), 1);
            c.due("1: one and twelve", x.could(1, 0), 13);
            c.due("2: and sixty-six", x.could(2, 0), 79);
            c.due("-1", x.could(-1, 0), -1);
            c.due("3", x.could(3, 0), -1);
            x.tell(0, 2, 2);
            c.due("each, 0", x.could(0, 0), 0);
            c.due("each, 1: one of 0 and 1", x.could(1, 0), 2);
            x.tell(-1, 0, 0);
            x.tell(11, 1, 3);
            c.due("1 is out by 2", x.could(2, 0), 2048);
            c.due("1 is out by more than 1", x.could(1, 0), 0);
        });
        e.edge(WHERE, ": how many ways there are; which are bars in all, in none.", c -> {
            RailingsCount x = new RailingsCount();
            x.tell(0, 1, 1);
            x.tell(11, 1, 0);
            c.due("how many", x.could(0, 0), 1024);
            c.due("in all", x.could(0, 1), 1);
            c.due("in none", x.could(0, 2), 2048);
            x.tell(0, 12, 11);
            c.due("one way", x.could(0, 0), 1);
            c.due("in all", x.could(0, 1), 2047);
            x.tell(0, 12, 12);
            c.due("no way", x.could(0, 0), 0);
            c.due("no way: in all", x.could(0, 1), -1);
            c.due("no way: in none", x.could(0, 2), -1);
        });
    }

    private static void whereToRun(Edges e) {
        e.edge(WHERE, "WHERE TO RUN: from which PLACE, how many (within 11), so that, how many bars there are being known for sure then, the most ways that can be left are fewest", c -> {
            RailingsCount x = new RailingsCount();
            x.tell(0, 11, 0);
            c.due("11 alone is not known", x.could(0, 0), 2);
            c.due("twelve from 0", x.ask(0), 12);
            x.tell(-1, 0, 0);
            // two of them at most: 9 leave 7 by none more, 36 or 36; 8 leave 40 by one; 4 leave 37 by none
            x.tell(0, 12, 0);
            c.due("known for sure then, though told with an error", x.ask(2), 9);
        });
        e.edge(WHERE, "; of like ones the lowest PLACE, then the fewest", c -> {
            RailingsCount x = new RailingsCount();
            // from 0 on 11 leave 2 * 462, 12 leave 924: like ones
            c.due("the fewest", x.ask(0), 11);
            x.tell(1, 11, 0);
            c.due("0 alone is not known: one from 0", x.ask(0), 1);
            x.tell(-1, 0, 0);
            x.tell(0, 5, 0);
            x.tell(6, 6, 0);
            c.due("5 alone is not known: the lowest place, then just so many", x.ask(0), 6);
            x.tell(-1, 0, 0);
            x.tell(0, 2, 1);
            x.tell(2, 8, 0);
            // one of 0 and 1, and 10, 11 freely: from 1 on eleven leave 3 at most, from 0 on none leaves fewer than 4
            c.due("a higher place, if it leaves fewer", x.ask(0), 111);
        });
        e.edge(WHERE, "; none (no way, or one).", c -> {
            RailingsCount x = new RailingsCount();
            x.tell(0, 12, 12);
            c.due("one way", x.ask(0), -1);
            c.due("thirteen ways", x.ask(1) >= 0, true);
            x.tell(0, 12, 0);
            c.due("no way", x.ask(2), -1);
            x.tell(-1, 0, 0);
            x.tell(0, 11, 11);
            c.due("two ways", x.ask(0), 12);
        });
    }

    private static void sings(Edges e) {
        e.edge(WHERE, "WHICH SINGS: of PLACES a .. b (a no more than b, no way round) one sings", c -> {
            RailingsCount x = new RailingsCount();
            c.due("all thirty", x.sings(0, 29, false), 5);
            c.due("two", x.sings(28, 29, false), 1);
            c.due("a is b", x.sings(29, 29, false), 0);
            c.due("a above b", x.sings(29, 0, false), -1);
            c.due("a above b", x.sings(1, 0, true), -1);
        });
        e.edge(WHERE, "; trying a PLACE (b aside) costs its PAINT and 1, and tells whether it is that or one ahead of it, or one behind", c -> {
            RailingsCount x = new RailingsCount();
            x.paint(3, 9);
            c.due("b aside", x.sings(2, 3, false), 1);
            c.due("a costs its paint", x.sings(3, 4, false), 10);
            x.bar(3, 0);
            c.due("of any kind", x.sings(3, 4, false), 10);
            // 3 first: 10 and then 1; 4 first: 1 and then 10 for 3
            c.due("three of them", x.sings(3, 5, false), 11);
            x.paint(3, 0);
            x.paint(4, 9);
            // 4 must be tried: from 3 on first 3 (1), then 4 (10) at worst; 4 first (10), then 3 (1) at worst
            c.due("that or one ahead of it", x.sings(3, 5, false), 11);
            // 4 is not tried of 3 .. 4: that one or one behind is known by 3
            c.due("or one behind", x.sings(3, 4, false), 1);
        });
        e.edge(WHERE, ": the least cost at worst to know; the first PLACE to try; of like ones the lowest", c -> {
            RailingsCount x = new RailingsCount();
            c.due("four by two", x.sings(4, 7, false), 2);
            c.due("by the middle", x.sings(4, 7, true), 5);
            c.due("five by three", x.sings(4, 8, false), 3);
            c.due("the lowest", x.sings(4, 8, true), 4);
            c.due("thirty: 14 and 16", x.sings(0, 29, true), 13);
            x.paint(5, 1);
            // 5 first costs 2 and 1; 4 first 1, then 6 (1), then 5 (2) at worst; 6 first 1, then 4 (1), then 5 (2)
            c.due("a dearer middle: cost", x.sings(4, 7, false), 3);
            c.due("a dearer middle: first", x.sings(4, 7, true), 5);
            x.paint(5, 0);
            x.paint(4, 9);
            // 4 must be tried: first 10 and then 2; last: 1, 1 and then 10, or 5 first: 1 and then 10, which is less
            c.due("a dear end: cost", x.sings(4, 7, false), 11);
            c.due("a dear end: first", x.sings(4, 7, true), 5);
        });
        e.edge(WHERE, "; none (a is b: 0).", c -> {
            RailingsCount x = new RailingsCount();
            x.paint(7, 9);
            for (int p : new int[] {0, 7, 29}) {
                c.due("cost", x.sings(p, p, false), 0);
                c.due("first", x.sings(p, p, true), -1);
            }
        });
    }
}
