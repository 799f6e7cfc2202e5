/** Rings and other beginnings that several tests start from. */
final class Rings {
    static final int MIN = Integer.MIN_VALUE;
    static final int MAX = Integer.MAX_VALUE;
    /** What is no PLACE. */
    static final int[] NO_PLACES = {-1, 30, 31, 60, MIN, MAX};
    private static final int LAST_YEAR = 9999;

    private Rings() {
    }

    /** What is no CHILD where there are so many; -1 is left out, as it means NONE in some calls. */
    static int[] noChildren(int children) {
        return new int[] {-2, children, children + 1, 7, MIN, MAX};
    }

    /** Gates, with bars where told, and one child. */
    static RailingsCount gates(int... bars) {
        RailingsCount x = new RailingsCount();
        for (int p = 0; p < 30; p++) {
            x.bar(p, 2);
        }
        for (int p : bars) {
            x.bar(p, 1);
        }
        x.child(1, 1);
        return x;
    }

    /** Bars at 0 .. bars - 1, a spike behind them, bars again to 29; one child and, if it isn't empty, a ruling text. */
    static RailingsCount railing(int bars, String law) {
        RailingsCount x = new RailingsCount();
        x.bar(bars, 3);
        x.child(1, 1);
        if (!law.isEmpty()) {
            Check.rule(x, law);
        }
        return x;
    }

    /** A new ring with so many children of stride 1 and luck 1. */
    static RailingsCount withChildren(int children) {
        RailingsCount x = new RailingsCount();
        for (int i = 0; i < children; i++) {
            x.child(1, 1);
        }
        return x;
    }

    /** A ring without children in that YEAR, with one text, which does not rule. */
    static RailingsCount inYear(int year) {
        RailingsCount x = new RailingsCount();
        Check.read(x, "year 60;".repeat(24));
        for (int i = 0; i < year / (24 * 60); i++) {
            x.played(0);
        }
        for (int i = 0; i < 24 && x.is(0) < year; i++) {
            x.year(Math.min(60, year - x.is(0)));
        }
        return x;
    }

    static RailingsCount inLastYear() {
        return inYear(LAST_YEAR);
    }

    /** X behind so many draws from x on. */
    static int drawn(int x, int draws) {
        int now = x;
        for (int i = 0; i < draws; i++) {
            now = (now * 503 + 389) % 30691;
        }
        return now;
    }

    /** All that can be seen of the state without changing it. */
    static String seen(RailingsCount x) {
        StringBuilder out = new StringBuilder();
        for (int i = 0; i < 7; i++) {
            out.append(x.about(i)).append(' ').append(x.of(i, 0)).append(' ').append(x.of(i, 1)).append(' ').append(x.of(i, 2)).append(' ');
        }
        for (int i = 0; i < 4; i++) {
            out.append(x.is(i)).append(' ');
        }
        for (int p = 0; p < 30; p++) {
            out.append(x.ofBar(p, 0)).append('.').append(x.ofBar(p, 1)).append(' ');
        }
        for (int i = 0; i < x.book(-1, 0); i++) {
            for (int what = 0; what < 4; what++) {
                out.append(x.book(i, what)).append(' ');
            }
        }
        return out.append(x.fault(0)).append(' ').append(x.fault(1)).append(' ').append(x.changed()).toString();
    }
}
