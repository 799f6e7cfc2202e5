/** Promises 32 to 35: tellings, what could be, where to run, which sings. */
public final class RiddleTest {
    private static final Check C = new Check("RiddleTest");

    public static void main(String[] args) {
        tell();
        could();
        ask();
        sings();
        C.finish();
    }

    private static void tell() {
        RailingsCount x = new RailingsCount();
        C.due("n 0", x.tell(0, 0, 0), -2);
        C.due("n 13", x.tell(0, 13, 0), -2);
        C.due("beyond 11", x.tell(11, 2, 0), -2);
        C.due("from 12", x.tell(12, 1, 0), -2);
        C.due("from -2", x.tell(-2, 1, 0), -2);
        C.due("bars 13", x.tell(0, 12, 13), -2);
        C.due("bars -1", x.tell(0, 12, -1), -2);
        C.due("max", x.tell(1, Integer.MAX_VALUE, 0), -2);
        C.due("none", x.about(4), 0);
        C.due("more bars than places may be told", x.tell(11, 1, 12), 1);
        for (int i = 2; i <= 6; i++) {
            C.due("tell " + i, x.tell(0, 12, i), i);
        }
        C.due("a seventh", x.tell(0, 12, 1), -2);
        C.due("about", x.about(4), 6);
        C.due("none any more", x.tell(-1, 99, 99), 0);
        C.due("about", x.about(4), 0);
        C.due("room again", x.tell(0, 1, 0), 1);
    }

    private static void could() {
        RailingsCount x = new RailingsCount();
        C.due("all ways", x.could(2, 0), 4096);
        C.due("in all", x.could(0, 1), 0);
        C.due("in none", x.could(0, 2), 0);
        C.due("err -1", x.could(-1, 0), -1);
        C.due("err 3", x.could(3, 0), -1);
        C.due("what -1", x.could(0, -1), -1);
        C.due("what 3", x.could(0, 3), -1);
        x.tell(0, 12, 0);
        C.due("one way", x.could(0, 0), 1);
        C.due("none is a bar", x.could(0, 2), 4095);
        C.due("out by one", x.could(1, 0), 13);
        C.due("out by two", x.could(2, 0), 79);
        x.tell(3, 2, 2);
        C.due("no way", x.could(0, 0), 0);
        C.due("no way: in all", x.could(0, 1), -1);
        C.due("no way: in none", x.could(0, 2), -1);
        // one bar at most, and one at 3 or 4: two ways
        C.due("out by one, twice", x.could(1, 0), 2);
        C.due("in none", x.could(1, 2), 4095 - 8 - 16);
        C.due("in all", x.could(1, 1), 0);
        x.tell(-1, 0, 0);
        x.tell(0, 12, 12);
        C.due("all are bars", x.could(0, 1), 4095);
        C.due("none is none", x.could(0, 2), 0);
        x.tell(-1, 0, 0);
        x.tell(3, 2, 2);
        C.due("3 and 4", x.could(0, 1), 8 | 16);
        C.due("all others may be", x.could(0, 0), 1024);
        x.tell(-1, 0, 0);
        x.tell(0, 12, 12);
        x.bar(0, 0);
        C.due("what is on the ring is not known", x.could(0, 0), 1);
    }

    private static void ask() {
        RailingsCount x = new RailingsCount();
        // 11 of them leave 2 * 462 at most, as 12 do; 10 leave 4 * 252
        C.due("of all ways", x.ask(0), 11);
        C.due("err -1", x.ask(-1), -1);
        C.due("err 3", x.ask(3), -1);
        x.tell(0, 12, 0);
        C.due("one way", x.ask(0), -1);
        C.due("thirteen: seven or six", x.ask(1), 6);
        // 79 ways of two bars at most: 9 places leave 7, 36 or 36, 4 leave 37 by none, 8 leave 40 by one
        C.due("seventy-nine", x.ask(2), 9);
        x.tell(3, 2, 2);
        C.due("no way", x.ask(0), -1);
        C.due("3 or 4: the places ahead of 4", x.ask(1), 4);
        x.tell(-1, 0, 0);
        x.tell(0, 11, 11);
        C.due("11 alone is not known: from 0 twelve", x.ask(0), 12);
        x.tell(-1, 0, 0);
        x.tell(0, 1, 1);
        x.tell(1, 10, 5);
        x.tell(2, 3, 0);
        x.tell(6, 5, 5);
        // 0 and 6 .. 10 are bars, 1 .. 5 are none, 11 may be
        C.due("two ways", x.could(0, 0), 2);
        C.due("by 11 alone", x.ask(0), 12);
        x.tell(-1, 0, 0);
        x.tell(1, 11, 0);
        C.due("by 0 alone", x.ask(0), 1);
        x.tell(-1, 0, 0);
        x.tell(0, 2, 1);
        x.tell(2, 8, 0);
        // one of 0 and 1, and 10, 11 freely: from 1 on eleven leave 3 at most, from 0 on none leaves fewer than 4
        C.due("from 1 on", x.ask(0), 111);
    }

    private static void sings() {
        RailingsCount x = new RailingsCount();
        C.due("four: cost", x.sings(0, 3, false), 2);
        C.due("four: first", x.sings(0, 3, true), 1);
        C.due("five: cost", x.sings(10, 14, false), 3);
        C.due("five: the lowest of like ones", x.sings(10, 14, true), 10);
        C.due("thirty: cost", x.sings(0, 29, false), 5);
        C.due("thirty: first", x.sings(0, 29, true), 13);
        C.due("one: cost", x.sings(7, 7, false), 0);
        C.due("one: first", x.sings(7, 7, true), -1);
        C.due("a above b", x.sings(8, 7, false), -1);
        C.due("a -1", x.sings(-1, 7, false), -1);
        C.due("b 30", x.sings(0, 30, false), -1);
        x.paint(1, 9);
        C.due("a dear middle: cost", x.sings(0, 3, false), 11);
        C.due("a dear middle: first", x.sings(0, 3, true), 1);
        x.paint(3, 9);
        C.due("b is not tried", x.sings(2, 3, false), 1);
        x.bar(0, 0);
        x.paint(0, 2);
        C.due("a gap costs its paint too", x.sings(0, 1, false), 3);
    }
}
