/** Promises 1 to 9: a new object, what is told, the tape, TEXTS and their FAULTS, THE TEXT. */
public final class TellTest {
    private static final Check C = new Check("TellTest");

    public static void main(String[] args) {
        newObject();
        barAndPaint();
        child();
        feedAndEnd();
        text();
        faultsOfKindOne();
        faultsOfNumbers();
        faultsOfDepth();
        faultsOfClauses();
        leastFaultOfOneToken();
        fault();
        by();
        C.finish();
    }

    private static void newObject() {
        RailingsCount x = new RailingsCount();
        C.due("NONE", RailingsCount.NONE, -1);
        for (int p = 0; p < 30; p++) {
            C.due("kind of " + p, x.ofBar(p, 0), 1);
            C.due("paint of " + p, x.ofBar(p, 1), 0);
        }
        int[] about = {0, 0, -1, 0, 0, 0, 0, -2};
        for (int i = 0; i < about.length; i++) {
            C.due("about " + i, x.about(i), about[i]);
        }
        int[] is = {0, 263, 30, 0, -2};
        for (int i = 0; i < is.length; i++) {
            C.due("is " + i, x.is(i), is[i]);
        }
        C.due("book", x.book(-1, 0), 0);
        C.due("fault", x.fault(0), -1);
        x.child(1, 0);
        C.due("values are the numbers", x.worth(0, 0, true) > 1, true);
        x.bar(4, 2);
        x.value(0, 50);
        C.due("the image is the new object", x.back(), 0);
        C.due("kind by the image", x.ofBar(4, 0), 1);
        C.due("nobody in the image", x.about(0), 0);
    }

    private static void barAndPaint() {
        RailingsCount x = new RailingsCount();
        for (int kind = 0; kind <= 3; kind++) {
            C.due("bar(29, k)", x.bar(29, kind), true);
            C.due("kind told", x.ofBar(29, 0), kind);
        }
        C.due("bar(-1, 0)", x.bar(-1, 0), false);
        C.due("bar(30, 0)", x.bar(30, 0), false);
        C.due("bar(0, -1)", x.bar(0, -1), false);
        C.due("bar(0, 4)", x.bar(0, 4), false);
        C.due("bar(min, max)", x.bar(Integer.MIN_VALUE, Integer.MAX_VALUE), false);
        C.due("place 0 is as it was", x.ofBar(0, 0), 1);
        C.due("paint(0, 9)", x.paint(0, 9), true);
        C.due("paint told", x.ofBar(0, 1), 9);
        C.due("paint of a spike", x.paint(29, 4), true);
        C.due("paint of a spike told", x.ofBar(29, 1), 4);
        C.due("paint stays when a kind is told", x.bar(29, 0) ? x.ofBar(29, 1) : -9, 4);
        C.due("paint(0, 10)", x.paint(0, 10), false);
        C.due("paint(0, -1)", x.paint(0, -1), false);
        C.due("paint(30, 0)", x.paint(30, 0), false);
        C.due("paint(-1, 0)", x.paint(-1, 0), false);
        C.due("paint is as it was", x.ofBar(0, 1), 9);
        C.due("telling is no step", x.about(3), 0);
    }

    private static void child() {
        RailingsCount x = new RailingsCount();
        C.due("child(0, 0)", x.child(0, 0), -1);
        C.due("child(10, 0)", x.child(10, 0), -1);
        C.due("child(1, -1)", x.child(1, -1), -1);
        C.due("child(1, 10)", x.child(1, 10), -1);
        for (int i = 0; i < 7; i++) {
            C.due("child " + i, x.child(i + 1, 9 - i), i);
        }
        C.due("an eighth", x.child(1, 1), -1);
        C.due("children", x.about(0), 7);
        C.due("stride of the last", x.of(6, 0), 7);
        C.due("luck of the last", x.of(6, 1), 3);
        C.due("the widest stride", new RailingsCount().child(9, 9), 0);
    }

    private static void feedAndEnd() {
        RailingsCount x = new RailingsCount();
        C.due("end(0) of nothing", x.end(0), 0);
        C.due("end(1) of nothing", x.end(1), -1);
        C.due("end(-1)", x.end(-1), -1);
        // "cut 3;" and blanks: the highest byte of a comes first
        C.due("feed", x.feed(0x63757420, 0x333b2020, 0x20202020, 0x20202020, 0x2020200a), 20);
        C.due("text", x.text(), 0);
        C.due("played", x.played(0), -1);
        C.due("cut", x.ofBar(3, 0), 0);
        for (int i = 1; i <= 15; i++) {
            C.due("feed " + i, x.feed(-1, 0, 0x80000000, 1, -1), 20 * i);
        }
        C.due("feed beyond 300", x.feed(0, 0, 0, 0, 0), -1);
        C.due("300 bytes", x.about(6), 300);
        C.due("end(301)", x.end(301), -1);
        C.due("end(300)", x.end(300), 300);
        C.due("end(281)", x.end(281), 281);
        C.due("feed would be 301", x.feed(0, 0, 0, 0, 0), -1);
        C.due("end(280)", x.end(280), 280);
        C.due("feed to 300", x.feed(0, 0, 0, 0, 0), 300);
        C.due("end(min)", x.end(Integer.MIN_VALUE), -1);
    }

    private static void text() {
        RailingsCount x = new RailingsCount();
        C.due("an empty text", x.text(), 0);
        C.due("blanks alone", Check.read(x, " \n "), 1);
        Check.tape(x, "cut 1");
        C.due("with a fault", x.text(), -1);
        C.due("the tape is empty", x.about(6), 0);
        C.due("no blanks wanted", Check.read(x, "cut 1;add 1;"), 2);
        C.due("all that there is", Check.read(x, "catches year+place-kind*paint/count+stride+luck+who+round 1 of 2;"
            + "paints if not 1<2 or 1<=2 and 1>2 or 1>=2 or 1=2 or 1#2 then(-1)else kinds 3 end;"), 3);
        Check.tape(x, "cut 2;");
        C.due("a fifth", x.text(), -1);
        C.due("the tape stays", x.about(6), 6);
        C.due("nothing was read", x.fault(0), 0);
        C.due("texts", x.about(1), 4);
        x.back();
        C.due("the tape is no part of the image", x.about(6), 6);
        C.due("room again", x.text(), 0);
        C.due("24 clauses", Check.read(x, "cut 1;".repeat(24)), 1);
    }

    private static void faulty(String text, int what, int at) {
        RailingsCount x = new RailingsCount();
        C.due("text() of " + text, Check.read(x, text), what == 0 ? 0 : -1);
        C.due("fault of " + text, x.fault(0), what);
        C.due("its place in " + text, x.fault(1), at);
    }

    private static void faultsOfKindOne() {
        faulty("!", 1, 0);
        faulty("cut 1; \t", 1, 7);
        faulty("cut 1;\u00e9", 1, 6);
        faulty("Cut 1;", 1, 0);
        faulty("cuts 1;", 1, 0);
        faulty("cut", 1, 3);
        for (String letter : new String[] {"a", "z", "A", "Z"}) {
            faulty("cut" + letter + " 1;", 1, 0);
        }
        for (String other : new String[] {"@", "[", "`", "{", "_", ".", ":", "\0", "\u00ff", "\r"}) {
            faulty("cut" + other + "1;", 1, 3);
            faulty("cut 1" + other + ";", 1, 5);
        }
        faulty("cut 1 ", 1, 6);
        faulty("cut ;", 1, 4);
        faulty("cut x;", 1, 4);
        faulty(";", 1, 0);
        faulty("cut 1;;", 1, 6);
        faulty("place 1 paint 2;", 1, 8);
        faulty("paint 1 at;", 1, 10);
        faulty("child 1 luck -1;", 1, 13);
        faulty("run 0 at 1;", 1, 6);
        faulty("year year;", 1, 5);
        faulty("catches;", 1, 7);
        faulty("catches 1 2;", 1, 10);
        faulty("catches 1 +;", 1, 11);
        faulty("catches 1+*2;", 1, 10);
        faulty("catches (1;", 1, 10);
        faulty("catches 1);", 1, 9);
        faulty("catches foo;", 1, 8);
        faulty("catches catches;", 1, 8);
        faulty("catches 1 count;", 1, 10);
        faulty("paints 1 count;", 1, 9);
        faulty("catches if 1 < 2 then 3 else 4;", 1, 30);
        faulty("catches if 1 < 2 then 3 end;", 1, 24);
        faulty("catches if 1 < 2 3;", 1, 17);
        faulty("catches if (1 < 2) then 1 else 2 end;", 1, 14);
        faulty("catches if 1 < 2 < 3 then 1 else 2 end;", 1, 17);
        faulty("catches if 1 < = 2 then 1 else 2 end;", 1, 15);
        faulty("catches if not then 1 else 2 end;", 1, 15);
        faulty("catches not 1;", 1, 8);
        faulty("catches if 1 then 2 else 3 end;", 1, 13);
        faulty("catches if 1 + 2;", 1, 16);
        faulty("catches if 1 of 2 then 2 else 3 end;", 1, 13);
        faulty("catches round 1 2;", 1, 16);
        faulty("catches 1 = 1;", 1, 10);
        faulty("catches 1 end;", 1, 10);
        faulty("catches if 1 =< 2 then 1 else 2 end;", 1, 14);
        faulty("catches if 1<=2 then 1 else 2 end;", 0, -1);
        faulty("catches if 1>=2 or 1#2 and not not 1=1 then 1 else 2 end;", 0, -1);
    }

    private static void faultsOfNumbers() {
        faulty("catches 9999;", 0, -1);
        faulty("catches 10000;", 2, 8);
        faulty("catches 000000000009999;", 0, -1);
        faulty("catches 99999999999999999999999;", 2, 8);
        faulty("catches 4294967296;", 2, 8);
        faulty("catches if 1<10000 then 1 else 1 end;", 2, 13);
        faulty("catches if 1<2 then 10000 else 1 end;", 2, 20);
        faulty("catches if 1<2 then 1 else 10000 end;", 2, 27);
        faulty("place 29 kind 3;", 0, -1);
        faulty("paint 9 at 29;", 0, -1);
        faulty("child 9 luck 9;", 0, -1);
        faulty("child 1 luck 0;", 0, -1);
        faulty("run 6 from 29;", 0, -1);
        faulty("cut 29;add 29;", 0, -1);
        faulty("year 60;year 1;", 0, -1);
        faulty("place 0 kind 0;", 0, -1);
        faulty("paint 0 at 0;", 0, -1);
        faulty("run 0 from 0;", 0, -1);
        faulty("cut 0;add 0;", 0, -1);
        faulty("place 30 kind 0;", 2, 6);
        faulty("place 31 kind 0;", 2, 6);
        faulty("place 0 kind 4;", 2, 13);
        faulty("paint 10 at 0;", 2, 6);
        faulty("paint 0 at 30;", 2, 11);
        faulty("child 0 luck 0;", 2, 6);
        faulty("child 10 luck 0;", 2, 6);
        faulty("child 1 luck 10;", 2, 13);
        faulty("run 7 from 0;", 2, 4);
        faulty("run 0 from 30;", 2, 11);
        faulty("cut 30;", 2, 4);
        faulty("year 0;", 2, 5);
        faulty("year 61;", 2, 5);
        faulty("run 7 from 30;", 2, 4);
        faulty("add 30", 2, 4);
    }

    private static void faultsOfDepth() {
        faulty("catches ((((((((1))))))));", 0, -1);
        faulty("catches (((((((((1)))))))));", 3, 16);
        faulty("catches --------1;", 0, -1);
        faulty("catches ---------1;", 3, 16);
        faulty("catches 1---------1;", 0, -1);
        faulty("catches 1----------1;", 3, 18);
        faulty("catches round 1 of ((((((((1))))))));", 3, 26);
        faulty("catches round (((((((1))))))) of (((((((1)))))));", 0, -1);
        faulty("catches round 1 of 2 + ((((((((1))))))));", 0, -1);
        faulty("catches kinds 1 * ((((((((1))))))));", 0, -1);
        faulty("catches kinds ((((((((1))))))));", 3, 21);
        faulty("catches if not not not not not not not 1<2 then 1 else 2 end;", 0, -1);
        faulty("catches if not not not not not not not not 1<2 then 1 else 2 end;", 3, 39);
        faulty("catches if not not not not not not not (1)<2 then 1 else 2 end;", 3, 39);
        faulty("catches if not not not not not not 1<2 and not 1<(2) then ((((((1)))))) else 2 end + ((((((((1))))))));", 0, -1);
        faulty("catches (1)+(1)+(1)+(1)+(1)+(1)+(1)+(1)+(1)+(1);", 0, -1);
    }

    private static void faultsOfClauses() {
        faulty("catches 1;paints 1;catches 1;", 4, 19);
        faulty("catches 1;paints 1;paints 1;", 4, 19);
        faulty("cut 1;".repeat(24) + " cut 1;", 6, 145);
        faulty("cut 1;".repeat(24) + " add 99999;", 6, 145);
        faulty("cut 1;".repeat(24) + " ", 0, -1);
        for (String name : new String[] {"count", "stride", "luck", "who"}) {
            faulty("catches " + name + ";", 0, -1);
            faulty("paints 1+" + name + ";", 5, 9);
        }
        for (String name : new String[] {"year", "place", "kind", "paint"}) {
            faulty("catches " + name + ";paints " + name + ";", 0, -1);
        }
        faulty("paints 1;catches count;", 0, -1);
        faulty("catches count;paints count;", 5, 21);
    }

    private static void leastFaultOfOneToken() {
        faulty("cut 99999 99999;", 2, 4);
        faulty("cut 1 99999;", 1, 6);
        faulty("cut 1;".repeat(24) + "stride 1;", 1, 144);
        faulty("catches 1;" + "cut 1;".repeat(23) + "catches 1;", 4, 148);
        faulty("paints ((((((((count))))))));", 5, 15);
        faulty("paints ((((((((1 (", 1, 17);
        faulty("cut 1; ! catches 10000;", 1, 7);
        faulty(";".repeat(300), 1, 0);
        faulty("catches 1" + "+".repeat(291), 1, 10);
        faulty("catches 1" + "+1".repeat(145) + ";", 0, -1);
        faulty("catches 1" + "-".repeat(8) + "1;".repeat(10), 1, 19);
        faulty("catches " + "-".repeat(292), 3, 16);
        faulty("cut 1;".repeat(23) + "a".repeat(162), 1, 138);
        faulty("catches " + "1".repeat(292), 2, 8);
        faulty("catches 1" + " ".repeat(290) + "<", 1, 299);
        faulty("catches 1" + " ".repeat(290) + ";", 0, -1);
        faulty("catches 10000 !;", 2, 8);
    }

    private static void fault() {
        RailingsCount x = new RailingsCount();
        C.due("ahead of any, 0", x.fault(0), -1);
        C.due("ahead of any, 1", x.fault(1), -1);
        Check.read(x, "cut 1");
        C.due("fault", x.fault(0), 1);
        C.due("place", x.fault(1), 5);
        C.due("2", x.fault(2), -1);
        C.due("-1", x.fault(-1), -1);
        x.back();
        C.due("the fault is no part of the image", x.fault(1), 5);
        Check.read(x, "cut 1;");
        C.due("without", x.fault(0), 0);
        C.due("no place", x.fault(1), -1);
    }

    private static void by() {
        RailingsCount x = new RailingsCount();
        C.due("by(0) of none", x.by(0), false);
        C.due("by(NONE)", x.by(-1), true);
        Check.read(x, "paints 4;");
        Check.read(x, "paints 5;");
        C.due("none yet", x.ofBar(0, 2), 1);
        C.due("by(1)", x.by(1), true);
        C.due("it rules", x.ofBar(0, 2), 5);
        C.due("about", x.about(2), 1);
        C.due("by(2)", x.by(2), false);
        C.due("by(-2)", x.by(-2), false);
        C.due("still that", x.about(2), 1);
        C.due("by(0)", x.by(0), true);
        C.due("it rules then", x.ofBar(0, 2), 4);
        C.due("by(NONE)", x.by(-1), true);
        C.due("none again", x.ofBar(0, 2), 1);
    }
}
