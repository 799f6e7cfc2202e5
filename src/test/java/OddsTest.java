/** Promises 23 to 31: how likely, where to start, the mean, which to cut, the n-th, values and worth. */
public final class OddsTest {
    private static final Check C = new Check("OddsTest");

    public static void main(String[] args) {
        likely();
        likelyOfMany();
        start();
        mean();
        which();
        whichBar();
        nth();
        value();
        worth();
        worthOfTwelve();
        goesOn();
        best();
        C.finish();
    }

    /** Bars at 0 .. bars - 1, then a spike; one child. */
    private static RailingsCount railing(int bars, String law) {
        RailingsCount x = new RailingsCount();
        x.bar(bars, 3);
        x.child(1, 1);
        if (!law.isEmpty()) {
            Check.rule(x, law);
        }
        return x;
    }

    private static void part(RailingsCount x, int from, int n, long upper, long lower) {
        C.due("likely from " + from + " just " + n + ", upper", x.likely(0, from, n, false), upper);
        C.due("likely from " + from + " just " + n + ", lower", x.likely(0, from, n, true), lower);
    }

    private static void likely() {
        RailingsCount x = railing(3, "catches count * 2;");
        part(x, 0, 0, 0, 1);
        part(x, 0, 1, 1, 5);
        part(x, 0, 2, 8, 25);
        part(x, 0, 3, 12, 25);
        part(x, 0, 4, 0, 1);
        part(x, 3, 0, 1, 1);
        part(x, 3, 1, 0, 1);
        part(x, 2, 1, 1, 1);
        x.run(0, 3);
        part(x, 0, 1, 1, 5);
        C.due("n 13", x.likely(0, 0, 13, false), -1);
        C.due("n -1", x.likely(0, 0, -1, true), -1);
        C.due("from 30", x.likely(0, 30, 0, false), -1);
        C.due("from -1", x.likely(0, -1, 0, false), -1);
        C.due("child 1", x.likely(1, 0, 0, false), -1);
        C.due("child -1", x.likely(-1, 0, 0, false), -1);
        C.due("nothing is done", x.is(1), 263);
    }

    private static void likelyOfMany() {
        RailingsCount all = new RailingsCount();
        all.child(1, 1);
        part(all, 7, 12, 31381059609L, 1000000000000L);
        part(railing(12, ""), 0, 12, 31381059609L, 100000000000L);
        part(railing(13, "catches 0;"), 0, 12, 0, 1);
        part(railing(12, "catches 0;"), 0, 12, 1, 1);
        part(railing(12, "catches 10;"), 0, 1, 1, 1);
        part(railing(12, "catches 10;"), 0, 12, 0, 1);
        RailingsCount one = new RailingsCount();
        one.child(1, 1);
        for (int p = 0; p < 30; p++) {
            one.bar(p, p == 7 ? 1 : 2);
        }
        part(one, 9, 1, 1, 10);
        part(one, 9, 2, 9, 10);
    }

    private static void start() {
        RailingsCount x = railing(5, "");
        C.due("0: the spike", x.start(0, 0), 5);
        C.due("1: the one ahead of it", x.start(0, 1), 4);
        C.due("5: all there are", x.start(0, 5), 0);
        // from 29 on there are just six
        C.due("6: round from 29", x.start(0, 6), 29);
        C.due("n 13", x.start(0, 13), -1);
        C.due("n -1", x.start(0, -1), -1);
        C.due("child 1", x.start(1, 0), -1);
        RailingsCount sure = railing(5, "catches 10;");
        C.due("the lowest of many", sure.start(0, 1), 0);
        C.due("none", sure.start(0, 2), -1);
        C.due("12, from the place that has just twelve", x.start(0, 12), 23);
        RailingsCount endless = new RailingsCount();
        endless.child(1, 1);
        C.due("none without a spike", endless.start(0, 0), -1);
    }

    private static void mean() {
        RailingsCount x = railing(3, "catches count * 2;");
        C.due("upper", x.mean(0, 0, false), 57);
        C.due("lower", x.mean(0, 0, true), 25);
        C.due("one bar", x.mean(0, 2, false), 1);
        C.due("one bar", x.mean(0, 2, true), 1);
        C.due("none", x.mean(0, 3, false), 0);
        C.due("none", x.mean(0, 3, true), 1);
        C.due("from 30", x.mean(0, 30, false), -1);
        C.due("from -1", x.mean(0, -1, false), -1);
        C.due("child 1", x.mean(1, 0, false), -1);
        RailingsCount twelve = railing(13, "catches 0;");
        C.due("thirteen", twelve.mean(0, 0, false), -1);
        C.due("twelve", twelve.mean(0, 1, false), 12);
        C.due("twelve", twelve.mean(0, 1, true), 1);
        RailingsCount sure = railing(13, "catches 10;");
        C.due("thirteen, caught or not", sure.mean(0, 0, true), -1);
        C.due("always one", sure.mean(0, 1, false), 1);
        RailingsCount tenth = railing(12, "");
        // (1 - 9^12 / 10^12) * 10
        C.due("twelve by one in ten, upper", tenth.mean(0, 0, false), 717570463519L);
        C.due("twelve by one in ten, lower", tenth.mean(0, 0, true), 100000000000L);
    }

    private static void which() {
        RailingsCount x = railing(4, "");
        C.due("three: one of four, the lowest", x.which(0, 0, 3), 0);
        C.due("four: none is better", x.which(0, 0, 4), -1);
        C.due("none from the last", x.which(0, 3, 0), 3);
        C.due("none from the spike", x.which(0, 4, 0), -1);
        C.due("one of two, from 2", x.which(0, 2, 1), 2);
        C.due("12 of 13", railing(13, "").which(0, 0, 12), 0);
        C.due("n 13", x.which(0, 0, 13), -1);
        C.due("n -1", x.which(0, 0, -1), -1);
        C.due("from 30", x.which(0, 30, 0), -1);
        C.due("from -1", x.which(0, -1, 0), -1);
        C.due("child 1", x.which(1, 0, 0), -1);
        C.due("all bars are there", x.is(2), 29);
        C.due("no step", x.about(3), 0);
    }

    private static void whichBar() {
        RailingsCount far = railing(4, "catches if kinds 20 = 0 then 10 else 0 end;");
        C.due("a bar that is not on the way", far.which(0, 0, 1), 20);
        RailingsCount own = railing(4, "catches if place = 1 then 9 else place end;");
        // c is 0 9 2 3: likely 2 is 9/10; without 0: 9, 2, 3: 1/10 * 2/10; without 1: 0, 2, 3: 2/10; without 2, 3: 9/10
        C.due("none is better", own.which(0, 0, 2), -1);
        // likely 3 is 1/10 * 2/10; without 0: 1/10 * 8/10; without 1: 8/10; without 2 and without 3: 1/10
        C.due("the second", own.which(0, 0, 3), 1);
    }

    private static void nth() {
        RailingsCount x = new RailingsCount();
        C.due("the third", x.nth(28, 3), 0);
        C.due("the sixtieth", x.nth(0, 60), 29);
        C.due("n 61", x.nth(0, 61), -1);
        C.due("n 0", x.nth(0, 0), -1);
        C.due("from 30", x.nth(30, 1), -1);
        C.due("from -1", x.nth(-1, 1), -1);
        for (int p = 0; p < 30; p++) {
            x.bar(p, p == 7 ? 1 : p % 2 * 2);
        }
        C.due("the first", x.nth(0, 1), 7);
        C.due("the same again", x.nth(0, 2), 7);
        C.due("twice round, no more", x.nth(0, 3), -1);
        C.due("from it", x.nth(7, 2), 7);
        x.bar(8, 3);
        C.due("ahead of a spike", x.nth(0, 1), 7);
        C.due("behind a spike", x.nth(0, 2), -1);
        C.due("from a spike", x.nth(8, 1), -1);
    }

    private static void value() {
        RailingsCount x = new RailingsCount();
        x.child(1, 1);
        C.due("value(12, 99)", x.value(12, 99), true);
        C.due("value(0, 0)", x.value(0, 0), true);
        C.due("value(13, 0)", x.value(13, 0), false);
        C.due("value(-1, 0)", x.value(-1, 0), false);
        C.due("value(0, 100)", x.value(0, 100), false);
        C.due("value(0, -1)", x.value(0, -1), false);
        x.bar(3, 3);
        C.due("at a spike it is worth 0", x.worth(0, 3, false), 0);
        x.value(0, 77);
        C.due("then 77", x.worth(0, 3, false), 77);
        C.due("no step", x.about(3), 0);
    }

    private static void worthIs(RailingsCount x, int from, long upper, long lower) {
        C.due("worth from " + from + ", upper", x.worth(0, from, false), upper);
        C.due("worth from " + from + ", lower", x.worth(0, from, true), lower);
    }

    private static void worth() {
        RailingsCount x = railing(3, "");
        worthIs(x, 0, 2187, 1000);
        worthIs(x, 1, 81, 50);
        worthIs(x, 2, 9, 10);
        worthIs(x, 3, 0, 1);
        x.value(1, 9);
        worthIs(x, 0, 81, 10);
        x.value(0, 9);
        worthIs(x, 0, 9, 1);
        x.value(3, 99);
        worthIs(x, 0, 72171, 1000);
        C.due("from 30", x.worth(0, 30, false), -1);
        C.due("from -1", x.worth(0, -1, false), -1);
        C.due("child 1", x.worth(1, 0, false), -1);
        RailingsCount sure = railing(3, "catches 10;");
        worthIs(sure, 0, 0, 1);
        RailingsCount by = railing(3, "catches count * 2;");
        // 8/10, then 8/10 * 6/10 * 2 = 96/100, then 8/10 * 6/10 * 4/10 * 3 = 576/1000
        worthIs(by, 0, 24, 25);
        by.run(0, 3);
        worthIs(by, 0, 24, 25);
    }

    private static void worthOfTwelve() {
        RailingsCount x = new RailingsCount();
        x.child(1, 1);
        // the most of k * 9^k / 10^k is at 9 and 10
        worthIs(x, 0, 3486784401L, 1000000000L);
        x.value(12, 99);
        // 99 * 9^12 / 10^12
        worthIs(x, 0, 99L * 282429536481L, 1000000000000L);
        Check.rule(x, "catches 0;");
        worthIs(x, 0, 99, 1);
        x.value(12, 12);
        worthIs(x, 0, 12, 1);
        RailingsCount y = new RailingsCount();
        y.child(1, 1);
        Check.rule(y, "catches 0;");
        worthIs(y, 0, 12, 1);
        x.value(12, 0);
        worthIs(x, 0, 11, 1);
    }

    private static void goesOn() {
        RailingsCount x = railing(3, "");
        x.value(1, 9);
        C.due("0", x.goesOn(0, 0, 0), 1);
        C.due("1", x.goesOn(0, 0, 1), 0);
        C.due("2", x.goesOn(0, 0, 2), 1);
        C.due("3: none behind these", x.goesOn(0, 0, 3), -1);
        C.due("4: not so many", x.goesOn(0, 0, 4), -1);
        C.due("at a spike", x.goesOn(0, 3, 0), -1);
        C.due("-1", x.goesOn(0, 0, -1), -1);
        C.due("from 30", x.goesOn(0, 30, 0), -1);
        C.due("child 1", x.goesOn(1, 0, 0), -1);
        RailingsCount three = railing(3, "");
        three.value(0, 2);
        C.due("2 for 2.187", three.goesOn(0, 0, 0), 1);
        RailingsCount one = railing(1, "");
        one.value(0, 9);
        one.value(1, 10);
        C.due("as much is not more", one.goesOn(0, 0, 0), 0);
        one.value(0, 8);
        C.due("more", one.goesOn(0, 0, 0), 1);
        RailingsCount all = new RailingsCount();
        all.child(1, 1);
        C.due("11 for 10.8", all.goesOn(0, 0, 11), 0);
        C.due("12", all.goesOn(0, 0, 12), -1);
        all.value(12, 13);
        C.due("11 for 11.7", all.goesOn(0, 0, 11), 1);
        RailingsCount eleven = railing(11, "");
        C.due("10 of 11", eleven.goesOn(0, 0, 10), 0);
        C.due("11 of 11", eleven.goesOn(0, 0, 11), -1);
    }

    private static void best() {
        RailingsCount x = new RailingsCount();
        C.due("nobody", x.best(0), -1);
        x.child(1, 1);
        C.due("all alike", x.best(0), 0);
        x.bar(5, 3);
        C.due("behind the spike", x.best(0), 6);
        x.value(0, 50);
        C.due("to stop at once is best", x.best(0), 0);
        x.value(1, 80);
        C.due("the first that meets a bar", x.best(0), 0);
        x.bar(0, 0);
        x.bar(1, 3);
        C.due("place 0 meets none", x.best(0), 2);
        C.due("child 1", x.best(1), -1);
        C.due("child -1", x.best(-1), -1);
    }
}
