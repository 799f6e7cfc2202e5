/** Promises 45 to 54: what was said, whose law, numbers, the image, what there is of all. */
public final class BookTest {
    private static final Check C = new Check("BookTest");
    /** A run counts as many as luck says. */
    private static final String BY_LUCK = "catches if count = luck then 10 else 0 end;";

    public static void main(String[] args) {
        said();
        whose();
        numbers();
        thickest();
        ledger();
        imageKeepsAll();
        imageKeepsSteps();
        imageKeepsTexts();
        about();
        C.finish();
    }

    private static void said() {
        RailingsCount x = new RailingsCount();
        C.due("nobody", x.said(0, 0, 0), -2);
        x.child(1, 1);
        C.due("child 1", x.said(1, 0, 0), -2);
        C.due("child -2", x.said(-2, 0, 0), -2);
        C.due("at 30", x.said(0, 30, 0), -2);
        C.due("at -1", x.said(0, -1, 0), -2);
        C.due("catches 11", x.said(0, 0, 11), -2);
        C.due("catches -1", x.said(0, 0, -1), -2);
        for (int i = 1; i <= 8; i++) {
            C.due("said " + i, x.said(0, 29, i + 2), i);
        }
        C.due("a ninth", x.said(0, 0, 0), -2);
        C.due("about", x.about(5), 8);
        C.due("none any more", x.said(-1, 99, 99), 0);
        C.due("about", x.about(5), 0);
    }

    private static void whose() {
        RailingsCount x = new RailingsCount();
        x.child(1, 4);
        x.child(1, 5);
        C.due("no text", x.whose(), 0);
        Check.read(x, "catches luck;");
        Check.read(x, "paints 4;");
        Check.read(x, "catches 3 + count;");
        Check.read(x, "catches 4 + year;");
        C.due("nothing said", x.whose(), 15);
        x.said(0, 7, 4);
        C.due("luck, 3 + 1, 4 + 0", x.whose(), 1 | 4 | 8);
        x.said(1, 7, 5);
        C.due("luck", x.whose(), 1);
        x.said(-1, 0, 0);
        x.said(1, 3, 1);
        C.due("without catches it is 1", x.whose(), 2);
        x.said(-1, 0, 0);
        x.said(0, 7, 5);
        C.due("none", x.whose(), 0);
        x.year(1);
        C.due("as now", x.whose(), 8);
        C.due("who rules is nothing to it", x.by(0) ? x.whose() : -9, 8);
        RailingsCount y = new RailingsCount();
        y.child(1, 1);
        Check.read(y, "catches place - 20;");
        y.said(0, 27, 7);
        C.due("by the place", y.whose(), 1);
        y.said(0, 28, 7);
        C.due("both are asked", y.whose(), 0);
    }

    private static void numbers() {
        RailingsCount x = new RailingsCount();
        Check.rule(x, BY_LUCK);
        int[] lucks = {3, 5, 3, 9, 9, 3, 4};
        C.due("nobody: greatest", x.greatest(), -1);
        for (int luck : lucks) {
            x.child(1, luck);
        }
        C.due("none has one: greatest", x.greatest(), -1);
        C.due("none has one: twins", x.twins(), 0);
        C.due("none has one: odd", x.odd(), 0);
        x.run(6, 0);
        C.due("4 alone", x.greatest(), 6);
        C.due("4 is not odd", x.odd(), 0);
        x.year(1);
        C.due("number", x.of(2, 2), 3);
        C.due("the lowest of 9", x.greatest(), 3);
        C.due("three of 3, two of 9", x.twins(), 4);
        C.due("all but the last", x.odd(), 63);
        RailingsCount y = new RailingsCount();
        y.child(1, 1);
        y.bar(0, 3);
        y.run(0, 0);
        C.due("0 is a number", y.greatest(), 0);
        C.due("0 is not odd", y.odd(), 0);
    }

    private static void thickest() {
        RailingsCount x = new RailingsCount();
        C.due("none", x.thickest(), 0);
        x.paint(29, 1);
        C.due("29", x.thickest(), 29);
        x.paint(1, 2);
        C.due("1", x.thickest(), 1);
        x.paint(12, 3);
        x.paint(20, 3);
        C.due("the lowest", x.thickest(), 12);
        x.cut(12);
        C.due("a gap too", x.thickest(), 12);
        x.paint(12, 0);
        C.due("20", x.thickest(), 20);
    }

    private static void ledger() {
        RailingsCount x = new RailingsCount();
        Check.rule(x, BY_LUCK);
        C.due("none", x.ledger(-1), 0);
        C.due("nobody", x.ledger(0), -2);
        x.child(1, 4);
        x.child(1, 7);
        C.due("not yet", x.ledger(0), 0);
        x.year(1);
        C.due("of the first", x.ledger(0), 4);
        C.due("of the second", x.ledger(1), 7);
        C.due("of all", x.ledger(-1), 11);
        C.due("child 2", x.ledger(2), -2);
        C.due("child -2", x.ledger(-2), -2);
        x.undo();
        C.due("taken back", x.ledger(-1), 0);
    }

    private static void imageKeepsAll() {
        RailingsCount x = new RailingsCount();
        x.child(2, 3);
        x.bar(4, 3);
        x.paint(5, 6);
        x.value(0, 40);
        x.tell(0, 12, 3);
        x.said(0, 1, 2);
        x.year(1);
        C.due("image", x.image(), 1);
        int number = x.of(0, 2);
        int draws = x.is(1);
        x.child(3, 3);
        x.year(3);
        x.bar(4, 1);
        x.paint(5, 1);
        x.value(0, 0);
        x.tell(-1, 0, 0);
        x.tell(0, 1, 1);
        x.tell(1, 1, 1);
        x.said(-1, 0, 0);
        x.cut(9);
        C.due("back", x.back(), 1);
        C.due("YEAR", x.is(0), 1);
        C.due("X", x.is(1), draws);
        C.due("children", x.about(0), 1);
        C.due("number", x.of(0, 2), number);
        C.due("kind", x.ofBar(4, 0), 3);
        C.due("cut", x.ofBar(9, 0), 1);
        C.due("paint", x.ofBar(5, 1), 7);
        C.due("value", x.worth(0, 4, false), 40);
        C.due("tellings", x.about(4), 1);
        C.due("as they were", x.could(0, 0), 220);
        C.due("said", x.about(5), 1);
        C.due("book", x.book(-1, 0), 1);
        C.due("steps", x.about(3), 1);
        C.due("a new child is without a number", x.child(3, 3) == 1 ? x.of(1, 2) : -9, -1);
        x.year(1);
        C.due("it stays", x.back(), 1);
        C.due("again", x.about(0), 1);
    }

    private static void imageKeepsSteps() {
        RailingsCount x = new RailingsCount();
        x.cut(1);
        x.cut(2);
        x.image();
        x.undo();
        x.bar(5, 2);
        x.cut(3);
        x.cut(4);
        C.due("three", x.about(3), 3);
        x.back();
        C.due("two", x.about(3), 2);
        C.due("told since the image is not", x.ofBar(5, 0), 1);
        C.due("one", x.undo(), 1);
        C.due("2 is a bar", x.ofBar(2, 0), 1);
        C.due("none", x.undo(), 0);
        C.due("1 is a bar", x.ofBar(1, 0), 1);
        C.due("nor by taking back", x.ofBar(5, 0), 1);
        x.back();
        C.due("two again", x.about(3), 2);
        x.year(60);
        x.image();
        x.year(40);
        x.back();
        for (int i = 29; i >= 0; i--) {
            C.due("undo " + i, x.undo(), i);
        }
        C.due("YEAR", x.is(0), 30);
    }

    private static void imageKeepsTexts() {
        RailingsCount x = new RailingsCount();
        Check.rule(x, "paints 3;");
        x.image();
        Check.rule(x, "paints 5;");
        Check.tape(x, "cut");
        C.due("two", x.about(1), 2);
        C.due("5", x.ofBar(0, 2), 5);
        x.back();
        C.due("one", x.about(1), 1);
        C.due("rules", x.about(2), 0);
        C.due("3", x.ofBar(0, 2), 3);
        C.due("by(1)", x.by(1), false);
        C.due("the tape stays", x.about(6), 3);
        C.due("a fault", x.text(), -1);
        x.back();
        C.due("the fault stays", x.fault(1), 3);
        C.due("text 1 anew", Check.read(x, "paints 7;"), 1);
        x.by(1);
        C.due("7", x.ofBar(0, 2), 7);
    }

    private static void about() {
        RailingsCount x = new RailingsCount();
        x.child(1, 1);
        x.child(1, 1);
        Check.rule(x, "");
        Check.rule(x, "");
        Check.read(x, "");
        x.year(4);
        for (int i = 0; i < 5; i++) {
            x.tell(0, 1, 1);
            x.said(0, 0, 0);
        }
        x.said(0, 0, 0);
        Check.tape(x, "abcdefg");
        int[] due = {2, 3, 1, 4, 5, 6, 7, -2};
        for (int what = 0; what < due.length; what++) {
            C.due("about(" + what + ")", x.about(what), due[what]);
        }
        C.due("about(-1)", x.about(-1), -2);
    }
}
