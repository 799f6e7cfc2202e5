/** Promises 17 to 22: what there is of children, places, laws and the book, and what is foretold. */
public final class StateTest {
    private static final Check C = new Check("StateTest");

    public static void main(String[] args) {
        of();
        ofBar();
        catches();
        names();
        sums();
        asks();
        is();
        book();
        foretold();
        C.finish();
    }

    private static void of() {
        RailingsCount x = new RailingsCount();
        C.due("nobody", x.of(0, 0), -2);
        x.child(3, 8);
        C.due("stride", x.of(0, 0), 3);
        C.due("luck", x.of(0, 1), 8);
        C.due("number", x.of(0, 2), -1);
        C.due("what 3", x.of(0, 3), -2);
        C.due("what -1", x.of(0, -1), -2);
        C.due("child 1", x.of(1, 0), -2);
        C.due("child -1", x.of(-1, 0), -2);
        x.bar(0, 3);
        x.run(0, 0);
        C.due("number 0", x.of(0, 2), 0);
    }

    private static void ofBar() {
        RailingsCount x = new RailingsCount();
        x.bar(9, 3);
        x.paint(9, 2);
        C.due("kind", x.ofBar(9, 0), 3);
        C.due("paint", x.ofBar(9, 1), 2);
        C.due("paints without a law", x.ofBar(9, 2), 1);
        C.due("what 3", x.ofBar(9, 3), -1);
        C.due("what -1", x.ofBar(9, -1), -1);
        C.due("at -1", x.ofBar(-1, 0), -1);
        C.due("at 30", x.ofBar(30, 0), -1);
        Check.rule(x, "catches 7;");
        C.due("paints by a text without it", x.ofBar(9, 2), 1);
        Check.rule(x, "paints kind + paint;");
        C.due("of any place", x.ofBar(9, 2), 5);
        C.due("of a bar", x.ofBar(0, 2), 1);
        Check.rule(x, "paints place - 20;");
        C.due("0 at least", x.ofBar(3, 2), 0);
        C.due("now", x.ofBar(25, 2), 5);
        C.due("9 at most", x.ofBar(29, 2), 9);
        x.bar(29, 1);
        Check.rule(x, "paints place;");
        C.due("9 at most", x.ofBar(29, 2), 9);
    }

    private static void catches() {
        RailingsCount x = new RailingsCount();
        C.due("nobody", x.catches(0, 0, 1), -1);
        x.child(3, 8);
        C.due("without a law", x.catches(0, 0, 1), 1);
        C.due("count 0", x.catches(0, 0, 0), -1);
        C.due("count 60", x.catches(0, 0, 60), 1);
        C.due("count 61", x.catches(0, 0, 61), -1);
        C.due("at -1", x.catches(0, -1, 1), -1);
        C.due("at 30", x.catches(0, 30, 1), -1);
        C.due("child 1", x.catches(1, 0, 1), -1);
        Check.rule(x, "catches count - 4;");
        C.due("0 at least", x.catches(0, 0, 1), 0);
        C.due("count", x.catches(0, 0, 9), 5);
        C.due("10 at most", x.catches(0, 0, 60), 10);
        Check.rule(x, "paints 3;");
        C.due("by a text without it", x.catches(0, 0, 9), 1);
    }

    private static void names() {
        RailingsCount x = new RailingsCount();
        x.child(1, 1);
        x.child(4, 7);
        x.bar(12, 3);
        x.paint(12, 6);
        x.year(2);
        law(x, "year", 1, 12, 5, 2);
        law(x, "place/3", 1, 12, 5, 4);
        law(x, "kind", 1, 12, 5, 3);
        law(x, "paint", 1, 12, 5, 6);
        law(x, "paint", 1, 0, 5, 2);
        law(x, "kind", 1, 0, 5, 1);
        law(x, "count", 1, 12, 5, 5);
        law(x, "stride", 1, 12, 5, 4);
        law(x, "luck", 1, 12, 5, 7);
        law(x, "who", 1, 12, 5, 1);
        law(x, "kinds 12", 1, 0, 5, 3);
        law(x, "kinds 11", 1, 0, 5, 1);
        law(x, "kinds 30", 1, 0, 5, 0);
        law(x, "kinds(0-1)", 1, 0, 5, 0);
        law(x, "kinds - 1", 1, 0, 5, 0);
        law(x, "kinds place + 1", 1, 12, 5, 4);
        law(x, "kinds kinds 12", 1, 12, 5, 1);
    }

    /** What a law answers; the text is taken back then, as there is room for four. */
    private static void law(RailingsCount x, String sum, int child, int at, int count, int due) {
        x.image();
        Check.rule(x, "catches " + sum + ";");
        C.due(sum, x.catches(child, at, count), due);
        x.back();
    }

    private static void sums() {
        RailingsCount x = new RailingsCount();
        x.child(1, 1);
        Object[] due = {"2+3*2", 8, "(1+1)*3", 6, "9-3-2", 4, "9/2*2", 8, "8/4/2", 1, "7/2", 3, "10+-7/2", 7,
            "5+7/0", 5, "- 3 + 5", 2, "--4", 4, "1--4", 5, "2*-3+9", 3, "0-7/2*1+4", 1, "10-(0-7)/2*1-10", 3,
            "round 7 of 5", 2, "round -7 of 5", 3, "round -5 of 5", 0, "round 7 of 0", 0, "round 7 of -5", 0,
            "round 9 of 5 * 2", 8, "round 9 of (5*2)", 9, "round round 8 of 5 of 2", 1,
            "9999*9999/(250*1000)", 4, "-(9999*9999)/(250*1000)+9", 5, "(9999*9999+1)-(9999*9999)", 0,
            "(9999*9999-9999)/(100*1000)", 9, "(0-9999*9999-1)*-1/(250*1000)", 4, "9999*9999*9999/(500*1000)", 2,
            "9999*9999*0+3", 3, "9999*100-9999*100+6", 6, "2*3+4/2-1", 7, "007", 7, "1+1+1+1+1+1+1", 7,
            "9999*9999-9999*100-95", 5, "0-9999*9999+9999*100+105", 5, "kinds 0", 1, "kinds 29", 1, "round 3 of 1", 0};
        for (int i = 0; i < due.length; i += 2) {
            law(x, (String) due[i], 0, 0, 1, (Integer) due[i + 1]);
        }
        law(x, "1+" + "1-1+".repeat(60) + "1", 0, 0, 1, 2);
    }

    private static void asks() {
        RailingsCount x = new RailingsCount();
        x.child(1, 1);
        Object[] due = {"1<2", 1, "2<2", 0, "2<=2", 1, "3<=2", 0, "3>2", 1, "2>2", 0, "2>=2", 1, "1>=2", 0, "2=2", 1,
            "1=2", 0, "1#2", 1, "2#2", 0, "not 1<2", 0, "not not 1<2", 1, "not 2<1", 1, "1<2 and 2<1", 0, "1<2 or 2<1", 1,
            "2<1 or 1<2", 1, "2<1 or 2<1", 0, "2<1 and 1<2", 0, "1<2 or 2<1 and 2<1", 1, "2<1 and 2<1 or 1<2", 1, "not 1<2 or 1<2", 1, "not 1<2 and 2<1", 0,
            "not 2<1 and not 2<1", 1, "-1<0", 1, "1+1=4-2", 1, "if 1<2 then 3 else 4 end=3", 1, "2*3>5", 1};
        for (int i = 0; i < due.length; i += 2) {
            law(x, "if " + due[i] + " then 5 else 6 end", 0, 0, 1, (Integer) due[i + 1] == 1 ? 5 : 6);
        }
        law(x, "1 + if 1<2 then 3 else 4 end * 2", 0, 0, 1, 7);
        law(x, "if 1>2 then 3 else if 1<2 then 7 else 8 end end - 1", 0, 0, 1, 6);
        law(x, "if 1<2 then if 1>2 then 3 else 9 end else 2 end", 0, 0, 1, 9);
    }

    private static void is() {
        RailingsCount x = new RailingsCount();
        x.child(1, 1);
        x.child(1, 1);
        x.child(1, 1);
        x.run(1, 0);
        x.bar(0, 0);
        x.bar(1, 2);
        x.bar(2, 3);
        C.due("YEAR", x.is(0), 0);
        C.due("X", x.is(1), 27885);
        C.due("bars", x.is(2), 27);
        C.due("without a number", x.is(3), 5);
        x.year(3);
        C.due("YEAR", x.is(0), 3);
        C.due("all have one", x.is(3), 0);
        C.due("4", x.is(4), -2);
        C.due("-1", x.is(-1), -2);
    }

    private static void book() {
        RailingsCount x = new RailingsCount();
        C.due("none", x.book(0, 0), -2);
        x.child(1, 1);
        x.child(1, 1);
        x.year(1);
        x.child(1, 1);
        x.bar(4, 3);
        x.run(2, 4);
        C.due("how many", x.book(-1, 0), 3);
        C.due("how many, whatever what is", x.book(-1, 9), 3);
        C.due("the eldest", x.book(0, 1), 0);
        int[] due = {1, 2, 4, 0};
        for (int what = 0; what < 4; what++) {
            C.due("the latest, " + what, x.book(2, what), due[what]);
        }
        C.due("what 4", x.book(0, 4), -2);
        C.due("what -1", x.book(0, -1), -2);
        C.due("3", x.book(3, 0), -2);
        C.due("-2", x.book(-2, 0), -2);
    }

    private static void foretold() {
        RailingsCount x = new RailingsCount();
        C.due("nobody", x.foretold(1, 0), -2);
        x.child(1, 1);
        x.child(1, 1);
        C.due("the first", x.foretold(1, 0), 14);
        C.due("the second", x.foretold(60, 1), 18);
        C.due("n 0", x.foretold(0, 0), -2);
        C.due("n 61", x.foretold(61, 0), -2);
        C.due("child 2", x.foretold(1, 2), -2);
        C.due("child -1", x.foretold(1, -1), -2);
        C.due("nothing is done: number", x.of(0, 2), -1);
        C.due("nothing is done: X", x.is(1), 263);
        C.due("nothing is done: YEAR", x.is(0), 0);
        C.due("nothing is done: paint", x.ofBar(0, 1), 0);
        C.due("nothing is done: steps", x.about(3), 0);
        x.run(0, 0);
        C.due("it has its number", x.foretold(1, 0), 15);
    }
}
