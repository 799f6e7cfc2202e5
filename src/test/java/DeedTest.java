/** Promises 10 to 16: runs, cutting, adding, years, scripts, ages, taking back. */
public final class DeedTest {
    private static final Check C = new Check("DeedTest");

    public static void main(String[] args) {
        run();
        runsEnd();
        cutAndAdd();
        year();
        paintInYears();
        lastYears();
        played();
        playedInLastYears();
        ages();
        agesWithChildren();
        undo();
        undoKeepsWhatWasTold();
        undoOfMany();
        C.finish();
    }

    private static void run() {
        RailingsCount x = new RailingsCount();
        C.due("nobody", x.run(0, 0), -1);
        x.child(1, 1);
        C.due("from -1", x.run(0, -1), -1);
        C.due("from 30", x.run(0, 30), -1);
        C.due("child 1", x.run(1, 0), -1);
        C.due("child -1", x.run(-1, 0), -1);
        C.due("nothing was done", x.is(1), 263);
        C.due("no step", x.about(3), 0);
        // X mod 10 is 3 4 9 8 7 8 5 1 6 6 7 2 3 7 0: the fifteenth draw is below 1
        C.due("caught by the fifteenth", x.run(0, 20), 15);
        C.due("X then", x.is(1), 27885);
        C.due("number", x.of(0, 2), 15);
        C.due("for life", x.run(0, 20), -1);
        C.due("written down", x.book(0, 2), 20);
        C.due("one step", x.about(3), 1);
    }

    private static void runsEnd() {
        RailingsCount x = new RailingsCount();
        for (int i = 0; i < 5; i++) {
            x.child(1, 1);
        }
        Check.rule(x, "catches if who = 0 then 0 - 5 else if who = 1 then 99 else 0 end end;");
        C.due("twice round, caught by none", x.run(0, 7), 60);
        C.due("sixty draws", x.is(1), 14016);
        C.due("caught by the first", x.run(1, 7), 1);
        x.bar(7, 3);
        C.due("from a spike", x.run(2, 7), 0);
        C.due("no draw", x.is(1), 22198);
        x.bar(5, 0);
        x.bar(6, 2);
        C.due("to a spike, past a gap and a gate", x.run(3, 3), 2);
        for (int p = 0; p < 30; p++) {
            x.bar(p, 2);
        }
        C.due("no bar", x.run(4, 0), 0);
    }

    private static void cutAndAdd() {
        RailingsCount x = new RailingsCount();
        x.bar(1, 0);
        x.bar(2, 2);
        x.bar(3, 3);
        x.paint(1, 5);
        x.paint(4, 6);
        C.due("a gap", x.cut(1), false);
        C.due("a gate", x.cut(2), false);
        C.due("a spike", x.cut(3), false);
        C.due("-1", x.cut(-1), false);
        C.due("30", x.cut(30), false);
        C.due("add a gate", x.add(2), false);
        C.due("add a spike", x.add(3), false);
        C.due("add a bar", x.add(4), false);
        C.due("add -1", x.add(-1), false);
        C.due("add 30", x.add(30), false);
        C.due("no step", x.about(3), 0);
        C.due("a bar", x.cut(4), true);
        C.due("is a gap", x.ofBar(4, 0), 0);
        C.due("its paint stays", x.ofBar(4, 1), 6);
        C.due("a gap", x.add(1), true);
        C.due("is a bar", x.ofBar(1, 0), 1);
        C.due("without paint", x.ofBar(1, 1), 0);
        C.due("two steps", x.about(3), 2);
    }

    private static void year() {
        RailingsCount x = new RailingsCount();
        C.due("year(0)", x.year(0), -1);
        C.due("year(61)", x.year(61), -1);
        C.due("year(-1)", x.year(-1), -1);
        C.due("no draw without children", x.year(1), 0);
        C.due("X", x.is(1), 263);
        x.child(1, 1);
        x.child(1, 1);
        // from 263 mod 30 = 23; the 14 draws behind it end with 5180; then from 27885 mod 30 = 15, 18 draws
        C.due("both run in the first", x.year(2), 2);
        C.due("the first", x.of(0, 2), 14);
        C.due("the second", x.of(1, 2), 18);
        C.due("from", x.book(0, 2), 23);
        C.due("from", x.book(1, 2), 15);
        C.due("in that year", x.book(1, 0), 1);
        C.due("X", x.is(1), 15812);
        C.due("YEAR", x.is(0), 3);
        C.due("each a step", x.about(3), 3);
    }

    private static void paintInYears() {
        RailingsCount x = new RailingsCount();
        x.bar(0, 0);
        x.bar(1, 2);
        x.bar(2, 3);
        x.paint(3, 8);
        x.year(1);
        int[] due = {0, 0, 0, 9, 1};
        for (int p = 0; p < due.length; p++) {
            C.due("paint of " + p, x.ofBar(p, 1), due[p]);
        }
        Check.rule(x, "paints if place = 4 then 0 - 7 else if place = 5 then 100 else year + kinds(place + 1) end end;");
        x.year(1);
        C.due("9 at most", x.ofBar(3, 1), 9);
        C.due("0 at least", x.ofBar(4, 1), 1);
        C.due("9 at most", x.ofBar(5, 1), 9);
        C.due("the year that passes is 1", x.ofBar(6, 1), 3);
    }

    private static RailingsCount old() {
        RailingsCount x = new RailingsCount();
        Check.read(x, "year 60;".repeat(24));
        for (int i = 0; i < 6; i++) {
            x.played(0);
        }
        for (int i = 0; i < 22; i++) {
            x.year(60);
        }
        x.year(37);
        return x;
    }

    private static void lastYears() {
        RailingsCount x = old();
        C.due("YEAR", x.is(0), 9997);
        x.child(1, 1);
        C.due("beyond", x.year(3), -1);
        C.due("nothing is done", x.is(0), 9997);
        C.due("no number yet", x.of(0, 2), -1);
        C.due("foretold in those that can pass", x.foretold(60, 0) > 0, true);
        C.due("to the last", x.year(2), 1);
        C.due("YEAR", x.is(0), 9999);
        C.due("none can pass", x.year(1), -1);
        x.child(1, 1);
        C.due("foretold without a year", x.foretold(5, 1), -1);
        x.ages(0, 1);
        C.due("none by ages", x.is(0), 9999);
        C.due("nobody ran", x.of(1, 2), -1);
        C.due("ages drew", x.is(1), 9914);
    }

    private static void played() {
        RailingsCount x = new RailingsCount();
        C.due("none", x.played(0), -2);
        Check.read(x, "place 3 kind 2;paint 7 at 4;child 5 luck 6;catches 10;run 0 from 9;cut 8;add 8;year 2;");
        C.due("-1", x.played(-1), -2);
        C.due("1", x.played(1), -2);
        C.due("all", x.played(0), -1);
        C.due("kind", x.ofBar(3, 0), 2);
        C.due("paint and two years", x.ofBar(4, 1), 9);
        C.due("stride", x.of(0, 0), 5);
        C.due("luck", x.of(0, 1), 6);
        // its own law does not rule, as by() has not told it
        C.due("number", x.of(0, 2), 15);
        C.due("steps", x.about(3), 5);
        C.due("the second child has run by nobody: run 0 can't be", x.played(0), 4);
        C.due("what was done stays", x.about(0), 2);
        C.due("nothing behind it", x.about(3), 5);
        Check.read(x, "catches 1;paints 1;add 1;");
        C.due("number among all clauses", x.played(1), 2);
        Check.read(x, "child 1 luck 1;".repeat(6));
        C.due("the eighth child", x.played(2), 5);
        Check.read(x, "run 3 from 17;");
        C.due("another runs", x.played(3), -1);
        C.due("it was child 3", x.book(1, 1), 3);
        C.due("from 17", x.book(1, 2), 17);
        C.due("nothing to do", Check.read(new RailingsCount(), ""), 0);
    }

    private static void playedInLastYears() {
        RailingsCount x = old();
        Check.read(x, "catches 1;year 2;year 1;cut 0;");
        Check.read(x, "cut 1;year 3;cut 2;");
        C.due("those that can pass do", x.played(2), 1);
        C.due("YEAR", x.is(0), 9999);
        C.due("ahead of it", x.ofBar(1, 0), 0);
        C.due("nothing behind it", x.ofBar(2, 0), 1);
        x.undo();
        x.undo();
        C.due("taken back", x.is(0), 9997);
        C.due("just two, then none", x.played(1), 2);
        C.due("YEAR", x.is(0), 9999);
    }

    private static void ages() {
        RailingsCount x = new RailingsCount();
        C.due("seed -1", x.ages(-1, 1), -1);
        C.due("seed 10000", x.ages(10000, 1), -1);
        C.due("n 0", x.ages(0, 0), -1);
        C.due("n 41", x.ages(0, 41), -1);
        C.due("no step", x.about(3), 0);
        // a year, cut 2, (add 11), (nobody), (add 9), cut 11, a year, (nobody), a year, (nobody) twice, cut 20, add 20
        C.due("thirteen", x.ages(0, 13), 3);
        C.due("X", x.is(1), 28687);
        C.due("2 is cut", x.ofBar(2, 0), 0);
        C.due("painted ahead of that", x.ofBar(2, 1), 1);
        C.due("11 is cut", x.ofBar(11, 0), 0);
        C.due("9 is a bar", x.ofBar(9, 1), 3);
        C.due("20 is added", x.ofBar(20, 0), 1);
        C.due("without paint", x.ofBar(20, 1), 0);
        C.due("one step", x.about(3), 1);
        C.due("taken back", x.undo(), 0);
        C.due("X ahead of it", x.is(1), 263);
        C.due("bars", x.is(2), 30);
        x.ages(9999, 1);
        C.due("by the greatest seed", x.is(1), (20261 * 503 + 389) % 30691);
        C.due("forty", x.ages(7, 40) >= 0, true);
    }

    private static void agesWithChildren() {
        RailingsCount x = new RailingsCount();
        for (int i = 0; i < 5; i++) {
            x.child(1, 1);
        }
        Check.rule(x, "catches 10;");
        // X is 1500 * 2 + 263 = 3263: mod 6 is 5
        C.due("a year", x.ages(1500, 1), 1);
        C.due("all have run", x.is(3), 0);
        x.undo();
        // X is 17 * 2 + 263 = 297, mod 6 is 3; of a new ring nothing can be added
        C.due("nothing", x.ages(17, 1), 0);
        // X is 20 * 2 + 263 = 303: mod 6 is 3. 21: 305, 5. 22: 307: mod 6 is 1, 307 mod 5 is 2, 307 / 6 mod 30 is 21
        C.due("a run", x.ages(22, 1), 0);
        C.due("of child 2", x.book(0, 1), 2);
        C.due("from 21", x.book(0, 2), 21);
        C.due("caught at once", x.of(2, 2), 1);
        C.due("again", x.ages(22, 1), 0);
        C.due("it has a number", x.book(-1, 0), 1);
        RailingsCount one = new RailingsCount();
        one.child(1, 1);
        one.ages(22, 1);
        C.due("of the only one", one.book(0, 2), 21);
    }

    private static void undo() {
        RailingsCount x = new RailingsCount();
        C.due("none", x.undo(), -1);
        x.child(1, 1);
        x.run(0, 3);
        x.cut(5);
        x.year(2);
        x.add(5);
        C.due("added", x.ofBar(5, 0), 1);
        C.due("four more", x.undo(), 4);
        C.due("a gap", x.ofBar(5, 0), 0);
        C.due("three", x.undo(), 3);
        C.due("YEAR", x.is(0), 1);
        C.due("paint", x.ofBar(0, 1), 1);
        C.due("two", x.undo(), 2);
        C.due("paint", x.ofBar(0, 1), 0);
        C.due("one", x.undo(), 1);
        C.due("a bar", x.ofBar(5, 0), 1);
        C.due("no more", x.undo(), 0);
        C.due("no number", x.of(0, 2), -1);
        C.due("no book", x.book(-1, 0), 0);
        C.due("X", x.is(1), 263);
        C.due("none again", x.undo(), -1);
        C.due("the child stays", x.about(0), 1);
        C.due("it runs again", x.run(0, 3), 15);
    }

    private static void undoKeepsWhatWasTold() {
        RailingsCount x = new RailingsCount();
        x.cut(3);
        x.bar(4, 0);
        x.year(1);
        x.paint(6, 7);
        x.bar(7, 2);
        x.add(4);
        x.year(1);
        x.child(2, 2);
        x.value(0, 5);
        x.tell(0, 1, 1);
        C.due("told, then a year", x.ofBar(6, 1), 8);
        x.undo();
        C.due("as told", x.ofBar(6, 1), 7);
        C.due("still added", x.ofBar(4, 0), 1);
        x.undo();
        C.due("as told", x.ofBar(4, 0), 0);
        x.undo();
        C.due("as told, ahead of the year", x.ofBar(6, 1), 7);
        C.due("told since", x.ofBar(7, 0), 2);
        C.due("told since the first step", x.ofBar(4, 0), 0);
        x.undo();
        C.due("a bar again", x.ofBar(3, 0), 1);
        C.due("told since", x.ofBar(4, 0), 0);
        C.due("told since", x.ofBar(7, 0), 2);
        C.due("paint told since", x.ofBar(6, 1), 7);
        C.due("no paint by years", x.ofBar(0, 1), 0);
        C.due("children stay", x.about(0), 1);
        C.due("tellings stay", x.about(4), 1);
        C.due("values stay", x.worth(0, 7, false) >= 5, true);
    }

    private static void undoOfMany() {
        RailingsCount x = new RailingsCount();
        x.child(1, 1);
        x.run(0, 0);
        x.year(29);
        C.due("thirty", x.about(3), 30);
        x.year(60);
        C.due("the latest thirty", x.about(3), 30);
        for (int i = 29; i >= 0; i--) {
            C.due("undo " + i, x.undo(), i);
        }
        C.due("no more", x.undo(), -1);
        C.due("YEAR", x.is(0), 59);
        C.due("the run is too old", x.of(0, 2), 15);
    }
}
