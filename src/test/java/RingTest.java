/** Promises 36 to 44: visits, meetings, periods, turns and mirrors, arcs, quiet, what changed. */
public final class RingTest {
    private static final Check C = new Check("RingTest");

    public static void main(String[] args) {
        visits();
        meet();
        period();
        least();
        mirrors();
        longest();
        arc();
        quiet();
        changed();
        C.finish();
    }

    /** Gates, with bars where told. */
    private static RailingsCount barsAt(int... places) {
        RailingsCount x = new RailingsCount();
        for (int p = 0; p < 30; p++) {
            x.bar(p, 2);
        }
        for (int p : places) {
            x.bar(p, 1);
        }
        return x;
    }

    private static void visits() {
        RailingsCount x = new RailingsCount();
        x.child(7, 0);
        x.child(6, 0);
        C.due("all", x.visits(0, 4), 1073741823);
        C.due("each sixth", x.visits(1, 1), 1 << 1 | 1 << 7 | 1 << 13 | 1 << 19 | 1 << 25);
        C.due("round", x.visits(1, 25), x.visits(1, 1));
        C.due("from 30", x.visits(0, 30), -1);
        C.due("from -1", x.visits(0, -1), -1);
        C.due("child 2", x.visits(2, 0), -1);
        C.due("child -1", x.visits(-1, 0), -1);
    }

    private static void meet() {
        RailingsCount x = new RailingsCount();
        x.child(2, 0);
        x.child(3, 0);
        x.child(1, 0);
        C.due("at once", x.meet(0, 9, 1, 9), 0);
        C.due("behind one", x.meet(0, 0, 1, 29), 1);
        C.due("behind 29", x.meet(0, 0, 1, 1), 29);
        C.due("never", x.meet(1, 0, 2, 1), -1);
        C.due("behind fifteen, never", x.meet(1, 0, 2, 29), -1);
        C.due("1 by 2s", x.meet(1, 0, 2, 2), 1);
        C.due("one and the same", x.meet(0, 3, 0, 3), 0);
        C.due("one and the same, never", x.meet(0, 3, 0, 4), -1);
        C.due("child 3", x.meet(3, 0, 0, 0), -1);
        C.due("child -1", x.meet(0, 0, -1, 0), -1);
        C.due("from 30", x.meet(0, 30, 0, 0), -1);
        C.due("at -1", x.meet(0, 0, 0, -1), -1);
    }

    private static void period() {
        C.due("all alike", new RailingsCount().period(), 1);
        C.due("by fives", barsAt(1, 6, 11, 16, 21, 26).period(), 5);
        C.due("by fifteens", barsAt(0, 4, 15, 19).period(), 15);
        C.due("by ten", barsAt(0, 4, 10, 14, 20, 24).period(), 10);
        C.due("one", barsAt(3).period(), 30);
        RailingsCount x = new RailingsCount();
        for (int p = 0; p < 30; p++) {
            x.bar(p, p % 3);
        }
        C.due("by threes", x.period(), 3);
        x.bar(29, 3);
        C.due("not quite", x.period(), 30);
    }

    private static void least() {
        C.due("all alike", new RailingsCount().least(), 0);
        C.due("by fifteens", barsAt(7, 22).least(), 7);
        C.due("two together", barsAt(3, 4, 9).least(), 3);
        C.due("round", barsAt(29, 0, 9).least(), 29);
        C.due("from 1", barsAt(1).least(), 1);
        RailingsCount x = barsAt(3, 4, 5);
        x.bar(20, 0);
        C.due("the first weighs most", x.least(), 20);
        x.bar(10, 0);
        x.bar(11, 1);
        C.due("then the next", x.least(), 10);
    }

    private static void mirrors() {
        C.due("all alike", new RailingsCount().mirrors(), 30);
        C.due("one", barsAt(7).mirrors(), 1);
        C.due("two", barsAt(7, 8).mirrors(), 1);
        C.due("opposite ones", barsAt(0, 15).mirrors(), 2);
        C.due("none", barsAt(0, 1, 3).mirrors(), 0);
        RailingsCount x = new RailingsCount();
        for (int p = 0; p < 30; p += 2) {
            x.bar(p, 0);
        }
        C.due("by twos", x.mirrors(), 15);
        x.bar(1, 3);
        C.due("around 1", x.mirrors(), 1);
    }

    private static void longestIs(RailingsCount x, int kind, int many, int first) {
        C.due("longest of " + kind, x.longest(kind, false), many);
        C.due("its first of " + kind, x.longest(kind, true), first);
    }

    private static void longest() {
        RailingsCount x = barsAt(28, 29, 0, 1, 10, 11);
        longestIs(x, 1, 4, 28);
        longestIs(x, 2, 16, 12);
        longestIs(x, 0, 0, -1);
        longestIs(x, 3, 0, -1);
        longestIs(barsAt(29, 0, 10, 11), 1, 2, 10);
        longestIs(new RailingsCount(), 1, 30, 0);
        longestIs(barsAt(4), 2, 29, 5);
        C.due("kind 4", x.longest(4, false), -2);
        C.due("kind -1", x.longest(-1, true), -2);
    }

    private static void arc() {
        RailingsCount x = barsAt(29, 0, 10, 11);
        int[] due = {0, 10, 9, 8};
        for (int n = 1; n <= due.length; n++) {
            C.due("arc(" + n + ")", x.arc(n), due[n - 1]);
        }
        C.due("arc(12): 0 .. 11", x.arc(12), 0);
        C.due("arc(13): 29 .. 11", x.arc(13), 29);
        C.due("arc(30)", x.arc(30), 0);
        C.due("arc(0)", x.arc(0), -1);
        C.due("arc(31)", x.arc(31), -1);
        C.due("no bar", barsAt().arc(3), 0);
    }

    private static void quiet() {
        RailingsCount x = barsAt(29, 0, 10, 11);
        x.bar(4, 3);
        x.bar(5, 0);
        C.due("quiet(1)", x.quiet(1), 26);
        C.due("quiet(2)", x.quiet(2), 24);
        C.due("quiet(17)", x.quiet(17), 1);
        C.due("quiet(18)", x.quiet(18), 0);
        C.due("quiet(0)", x.quiet(0), -1);
        C.due("quiet(31)", x.quiet(31), -1);
        C.due("no bar", barsAt().quiet(30), 30);
        C.due("one bar", barsAt(3).quiet(29), 1);
    }

    private static void changed() {
        RailingsCount x = new RailingsCount();
        C.due("none", x.changed(), 0);
        x.cut(29);
        x.bar(0, 3);
        x.paint(4, 4);
        C.due("0 and 29", x.changed(), 1 << 29 | 1);
        x.image();
        C.due("none by the new image", x.changed(), 0);
        x.add(29);
        C.due("29", x.changed(), 1 << 29);
        x.bar(29, 0);
        C.due("as it was", x.changed(), 0);
    }
}
