/** Terms II: TOKENS, CLAUSES, SUMS, FAULTS, laws and what is PLAYED. */
final class EdgesOfTexts {
    private static final String WHERE = "Terms II";
    private static final String LAW = "catches ( 1 + - count ) * round 7 of kinds 3 - if not 1 < 2 and 3 # 4 or 5 >= 6 then who else 2 end / 3 ;";
    private static final String DEEDS = "place 3 kind 2 ; paint 7 at 4 ; child 5 luck 6 ; run 0 from 9 ; cut 8 ; add 8 ; year 2 ;";

    private EdgesOfTexts() {
    }

    static void all(Edges e) {
        tokens(e);
        clauses(e);
        sums(e);
        asks(e);
        names(e);
        steps(e);
        faultsComeTo(e);
        faultOfStanding(e);
        faultOfNumbers(e);
        faultOfDepth(e);
        faultsOfClauses(e);
        laws(e);
        played(e);
        playedYears(e);
    }

    /** The FAULT (0: none) of a text and its place. */
    static void fault(Check c, String text, int what, int at) {
        RailingsCount x = new RailingsCount();
        c.due("text() of " + text, Check.read(x, text), what == 0 ? 0 : -1);
        c.due("fault of " + text, x.fault(0), what);
        c.due("its place in " + text, x.fault(1), at);
    }

    private static void fine(Check c, String... texts) {
        for (String text : texts) {
            fault(c, text, 0, -1);
        }
    }

    /** A number written so that it is no NUMBER above 9999 and not below 0. */
    private static String written(int n) {
        int size = Math.abs(n);
        return (n < 0 ? "0-" : "") + (size > 9999 ? "(" + size / 9999 + "*9999+" + size % 9999 + ")" : "" + size);
    }

    /** That a SUM is n, whatever the bounds of catches are. */
    private static void is(Check c, String sum, int n) {
        RailingsCount x = Rings.withChildren(1);
        Check.rule(x, "catches if " + sum + " = " + written(n) + " then 7 else 3 end;");
        c.due(sum + " is " + n, x.catches(0, 0, 1), 7);
    }

    private static void so(Check c, String either, boolean due) {
        RailingsCount x = Rings.withChildren(1);
        Check.rule(x, "catches if " + either + " then 7 else 3 end;");
        c.due(either, x.catches(0, 0, 1), due ? 7 : 3);
    }

    private static void tokens(Edges e) {
        e.edge(WHERE, "TEXTS 0 .. 3: of up to 300 bytes.", c -> {
            RailingsCount x = new RailingsCount();
            for (int i = 0; i <= 3; i++) {
                c.due("text " + i, Check.read(x, ""), i);
            }
            c.due("no fifth", Check.read(x, ""), -1);
            fine(c, "", "cut 1;" + " ".repeat(294), " ".repeat(300), "catches 1" + "+1".repeat(145) + ";");
            fault(c, "cut 1;" + " ".repeat(293) + "!", 1, 299);
            fault(c, "cut 1" + " ".repeat(295), 1, 300);
            fault(c, ";".repeat(300), 1, 0);
            fault(c, "catches 1" + " ".repeat(290) + "<", 1, 299);
            fault(c, "catches " + "9".repeat(292), 2, 8);
            fault(c, "cut 1;" + "a".repeat(294), 1, 6);
            fault(c, "catches 1" + "+1".repeat(145) + "+", 1, 300);
        });
        e.edge(WHERE, "TOKENS, blanks (32, 10) aside", c -> {
            fine(c, "\n cut\n \n1 ;\n", " ", "\n", "cut 1;add 1;");
            for (char b : new char[] {0, 9, 11, 13, 31, 33, 127, 160, 255}) {
                fault(c, "cut" + b + "1;", 1, 3);
                fault(c, "cut 1;" + b, 1, 6);
                fault(c, "" + b, 1, 0);
            }
            fault(c, "cu t 1;", 1, 0);
            fault(c, "cut 1 2;", 1, 6);
        });
        e.edge(WHERE, ": letters a .. z, A .. Z one behind the other (one TOKEN)", c -> {
            for (char letter : new char[] {'a', 'z', 'A', 'Z', 'm', 'M'}) {
                fault(c, "cut" + letter + " 1;", 1, 0);
                fault(c, letter + "cut 1;", 1, 0);
            }
            for (char other : new char[] {'@', '[', '`', '{', '_'}) {
                fault(c, "cut" + other + " 1;", 1, 3);
            }
            fault(c, "CUT 1;", 1, 0);
            fault(c, "placekind 1;", 1, 0);
            fine(c, "cut1;", "place1kind2;");
        });
        e.edge(WHERE, ", digits likewise (NUMBERS, 0 .. 9999)", c -> {
            is(c, "0", 0);
            is(c, "9999", 9999);
            is(c, "0009999", 9999);
            fault(c, "catches 10000;", 2, 8);
            fault(c, "catches 4294967296;", 2, 8);
            fault(c, "catches 18446744073709551616;", 2, 8);
            fault(c, "cut 1:;", 1, 5);
            fault(c, "cut 1/;", 1, 5);
            fault(c, "cut 1.0;", 1, 5);
            fault(c, "cut 1 1;", 1, 6);
        });
        e.edge(WHERE, ", <= >= < > = # + - * / ( ) ; (the longest).", c -> {
            so(c, "2<=2", true);
            so(c, "2>=2", true);
            so(c, "2<-2", false);
            fault(c, "catches if 1 < = 2 then 1 else 2 end;", 1, 15);
            fault(c, "catches if 1 > = 2 then 1 else 2 end;", 1, 15);
            fault(c, "catches if 1 <== 2 then 1 else 2 end;", 1, 15);
            fault(c, "catches if 1 =< 2 then 1 else 2 end;", 1, 14);
            fault(c, "catches if 1 <> 2 then 1 else 2 end;", 1, 14);
            fault(c, "catches if 1 == 2 then 1 else 2 end;", 1, 14);
            fault(c, "catches if 1 ## 2 then 1 else 2 end;", 1, 14);
            fault(c, "catches if 1 ; 2 then 1 else 2 end;", 1, 13);
            fault(c, "cut 1 <=", 1, 6);
            fault(c, "catches 1 ** 2;", 1, 11);
            fault(c, "catches 1 % 2;", 1, 10);
            fault(c, "cut 1;;", 1, 6);
        });
    }

    private static void clauses(Edges e) {
        e.edge(WHERE, "{CLAUSE}, 24 at most", c -> {
            fine(c, "", "cut 1;", "cut 1;".repeat(24), "cut 1;".repeat(24) + "\n ", "catches 1;paints 1;" + "cut 1;".repeat(22));
            fault(c, "cut 1;".repeat(25), 6, 144);
            fault(c, "catches 1;paints 1;" + "cut 1;".repeat(23), 6, 151);
        });
        e.edge(WHERE, ": catches SUM ; or paints SUM ; (each once)", c -> {
            fine(c, "catches 1;", "paints 1;", "paints 1;catches 1;", "catches 1;cut 1;paints 1;");
            fault(c, "catches 1;cut 1;catches 1;", 4, 16);
            fault(c, "paints 1;cut 1;paints 1;", 4, 15);
            fault(c, "catches;", 1, 7);
            fault(c, "paints 1", 1, 8);
        });
        e.edge(WHERE, "or place NUMBER kind NUMBER ; or paint NUMBER at NUMBER ; (PAINT, PLACE)", c -> {
            RailingsCount x = new RailingsCount();
            Check.read(x, "place 3 kind 2;paint 7 at 4;");
            c.due("played", x.played(0), -1);
            c.due("kind of 3", x.ofBar(3, 0), 2);
            c.due("kind of 2", x.ofBar(2, 0), 1);
            c.due("paint of 4", x.ofBar(4, 1), 7);
            c.due("paint of 7", x.ofBar(7, 1), 0);
        });
        e.edge(WHERE, "or child NUMBER luck NUMBER ; (STRIDE)", c -> {
            RailingsCount x = new RailingsCount();
            Check.read(x, "child 9 luck 0;child 1 luck 9;");
            c.due("played", x.played(0), -1);
            c.due("stride", x.of(0, 0), 9);
            c.due("luck", x.of(0, 1), 0);
            c.due("stride", x.of(1, 0), 1);
            c.due("luck", x.of(1, 1), 9);
        });
        e.edge(WHERE, "or run NUMBER from NUMBER ; (CHILD, PLACE)", c -> {
            RailingsCount x = Rings.withChildren(7);
            Check.read(x, "run 6 from 29;run 0 from 0;");
            c.due("played", x.played(0), -1);
            c.due("child", x.book(0, 1), 6);
            c.due("place", x.book(0, 2), 29);
            c.due("child", x.book(1, 1), 0);
            c.due("place", x.book(1, 2), 0);
        });
        e.edge(WHERE, "or cut NUMBER ; or add NUMBER ; or year NUMBER ;.", c -> {
            RailingsCount x = new RailingsCount();
            Check.read(x, "cut 29;cut 0;add 29;year 60;year 1;");
            c.due("played", x.played(0), -1);
            c.due("cut", x.ofBar(0, 0), 0);
            c.due("added", x.ofBar(29, 0), 1);
            c.due("years", x.is(0), 61);
        });
    }

    private static void sums(Edges e) {
        e.edge(WHERE, "SUM: PRODUCT {+ or - PRODUCT}. PRODUCT: ONE {* or / ONE}.", c -> {
            is(c, "2+3*2", 8);
            is(c, "2*3+2", 8);
            is(c, "9-6/2", 6);
            is(c, "1", 1);
            is(c, "1" + "+1".repeat(100), 101);
            fault(c, "catches +1;", 1, 8);
            fault(c, "catches 1+;", 1, 10);
            fault(c, "catches 1*;", 1, 10);
            fault(c, "catches /1;", 1, 8);
        });
        e.edge(WHERE, "ONE: NUMBER, NAME, ( SUM ), - ONE,", c -> {
            is(c, "(1+2)*3", 9);
            is(c, "-3", -3);
            is(c, "-3+5", 2);
            is(c, "--3", 3);
            is(c, "2--3", 5);
            is(c, "2*-3", -6);
            is(c, "-(3-5)", 2);
            is(c, "-3*-3", 9);
            fault(c, "catches ();", 1, 9);
            fault(c, "catches (1;", 1, 10);
            fault(c, "catches 1);", 1, 9);
            fault(c, "catches -;", 1, 9);
        });
        e.edge(WHERE, "round ONE of ONE (what is left of the first by the second, 0 at least: below 0 it goes on round; by 0 or less it is 0)", c -> {
            is(c, "round 7 of 5", 2);
            is(c, "round 5 of 5", 0);
            is(c, "round 4 of 5", 4);
            is(c, "round 0 of 5", 0);
            is(c, "round -1 of 5", 4);
            is(c, "round -5 of 5", 0);
            is(c, "round -6 of 5", 4);
            is(c, "round 7 of 1", 0);
            is(c, "round 7 of 0", 0);
            is(c, "round 7 of -5", 0);
            is(c, "round -7 of -1", 0);
            is(c, "round (0-9999*9999) of 9999", 9899);
            is(c, "round 9 of 5*2", 8);
            is(c, "round (1+1) of 5", 2);
            fault(c, "catches round 1+1 of 5;", 1, 15);
        });
        e.edge(WHERE, "kinds ONE (KIND of the PLACE of that number; 0 for others)", c -> {
            RailingsCount x = Rings.withChildren(1);
            x.bar(0, 2);
            x.bar(29, 3);
            Check.rule(x, "catches kinds 0 + kinds 29;");
            c.due("the first and the last", x.catches(0, 5, 1), 5);
            Check.rule(x, "catches 1 + kinds 30 + kinds -1 + kinds 9999 + kinds(0-9999*9999);");
            c.due("0 for others", x.catches(0, 5, 1), 1);
            Check.rule(x, "catches kinds(place - 1) * 3 + kinds(place + 1);");
            c.due("no way round behind 29: 1 * 3", x.catches(0, 29, 1), 3);
            c.due("no way round ahead of 0: 0 * 3 + 1", x.catches(0, 0, 1), 1);
        });
    }

    private static void asks(Edges e) {
        e.edge(WHERE, ", if EITHER then SUM else SUM end. EITHER: BOTH {or BOTH}. BOTH: ASK {and ASK}.", c -> {
            String[] sides = {"2<1", "1<2"};
            for (int i = 0; i < 8; i++) {
                String a = sides[i & 1];
                String b = sides[i >> 1 & 1];
                String d = sides[i >> 2];
                so(c, a + " or " + b + " and " + d, (i & 1) == 1 || i >= 6);
                so(c, a + " and " + b + " or " + d, (i & 3) == 3 || i >= 4);
                so(c, a + " or " + b + " or " + d, i > 0);
                so(c, a + " and " + b + " and " + d, i == 7);
            }
            fault(c, "catches if 1<2 then 1 end;", 1, 22);
            fault(c, "catches if 1<2 then 1 else 2;", 1, 28);
            fault(c, "catches if (1<2) then 1 else 2 end;", 1, 13);
        });
        e.edge(WHERE, "ASK: not ASK, or SUM one of < <= > >= = # (unlike) SUM.", c -> {
            String[] signs = {"<", "<=", ">", ">=", "=", "#"};
            boolean[][] due = {{true, false, false}, {true, true, false}, {false, false, true}, {false, true, true},
                {false, true, false}, {true, false, true}};
            for (int i = 0; i < signs.length; i++) {
                for (int left = 1; left <= 3; left++) {
                    so(c, left + signs[i] + "2", due[i][left - 1]);
                    so(c, "not " + left + signs[i] + "2", !due[i][left - 1]);
                }
            }
            so(c, "not not 1<2", true);
            so(c, "not 1<2 or 1<2", true);
            so(c, "-1<0", true);
            fault(c, "catches if 1 then 2 else 3 end;", 1, 13);
            fault(c, "catches if 1<2<3 then 2 else 3 end;", 1, 14);
            fault(c, "catches not 1;", 1, 8);
        });
    }

    private static void names(Edges e) {
        e.edge(WHERE, "NAMES: year, place, kind, paint (of it) in both; count (it too), stride, luck, who (the CHILD) in catches.", c -> {
            String[] names = {"year", "place", "kind", "paint", "count", "stride", "luck", "who"};
            int[] due = {2, 8, 3, 6, 5, 4, 7, 1};
            for (int i = 0; i < names.length; i++) {
                RailingsCount x = Rings.withChildren(1);
                x.child(4, 7);
                x.bar(8, 3);
                x.paint(8, 6);
                x.year(2);
                Check.rule(x, "catches " + names[i] + ";");
                c.due(names[i] + " in catches", x.catches(1, 8, 5), due[i]);
                if (i < 4) {
                    Check.rule(x, "paints " + names[i] + ";");
                    c.due(names[i] + " in paints", x.ofBar(8, 2), due[i]);
                } else {
                    fault(c, "paints " + names[i] + ";", 5, 7);
                }
            }
            for (int p : new int[] {0, 29}) {
                RailingsCount x = Rings.withChildren(1);
                x.bar(p, 2);
                x.paint(p, 5);
                Check.rule(x, "catches kind + paint;");
                c.due("kind and paint at " + p, x.catches(0, p, 1), 7);
            }
            c.due("count: the first is 1", Rings.railing(5, "catches if count = 0 then 10 else 0 end;").run(0, 0), 5);
            c.due("count: it too", Rings.railing(5, "catches if count = 1 then 10 else 0 end;").run(0, 0), 1);
            c.due("count: the last", Rings.railing(5, "catches if count = 5 then 10 else 0 end;").run(0, 0), 5);
            c.due("the year that passes, in paints", paintBehindOneYear("year"), 0);
        });
    }

    private static int paintBehindOneYear(String sum) {
        RailingsCount x = new RailingsCount();
        Check.rule(x, "paints " + sum + ";");
        x.year(1);
        return x.ofBar(0, 1);
    }

    private static void steps(Edges e) {
        e.edge(WHERE, "From the left; / cuts towards 0, by 0 it is 0", c -> {
            is(c, "9-3-2", 4);
            is(c, "8/4/2", 1);
            is(c, "7/2*2", 6);
            is(c, "9-3+2", 8);
            is(c, "7/2", 3);
            is(c, "(0-7)/2", -3);
            is(c, "7/-2", -3);
            is(c, "-7/-2", 3);
            is(c, "1/2", 0);
            is(c, "-1/2", 0);
            is(c, "7/0", 0);
            is(c, "0/0", 0);
            is(c, "-7/(1-1)+5", 5);
        });
        e.edge(WHERE, "; what is above 1000000 (below the same less) is that, at each step.", c -> {
            is(c, "1000*1000", 1000000);
            is(c, "1000*1000+1", 1000000);
            is(c, "1000*1000-1", 999999);
            is(c, "1001*1000", 1000000);
            is(c, "1001*999", 999999);
            is(c, "-1000*1000", -1000000);
            is(c, "-1000*1000-1", -1000000);
            is(c, "-1000*1000+1", -999999);
            is(c, "-1001*1000", -1000000);
            is(c, "9999*9999*9999", 1000000);
            is(c, "9999*9999*-9999", -1000000);
            is(c, "1000*1000+1000-1000", 999000);
            is(c, "9999*9999/1000", 1000);
            is(c, "9999*9999*9999/9999", 100);
            is(c, "-(1000*1000+5)", -1000000);
        });
        // no sign of it can be seen from outside: an asking changes nothing
        e.edge(WHERE, "or and and look at both sides always, of if just the SUM that is chosen is asked.", c -> {
            is(c, "if 1<2 or 1/0=0 then 4 else 5/0 end", 4);
            is(c, "if 2<1 and 1/0=1 then 4/0 else 5 end", 5);
            is(c, "if 1<2 then if 2<1 then 1 else 2 end else 3 end + 1", 3);
            is(c, "if 2<1 then 3 else if 2<1 then 1 else 2 end end * 2", 4);
        });
    }

    private static void faultsComeTo(Edges e) {
        e.edge(WHERE, "FAULTS, the first as TOKENS are come to", c -> {
            fault(c, "cut 30; !", 2, 4);
            fault(c, "! cut 30;", 1, 0);
            fault(c, "paints count + 10000;", 5, 7);
            fault(c, "paints 10000 + count;", 2, 7);
            fault(c, "catches 1;catches 10000;", 4, 10);
            fault(c, "cut 1;".repeat(24) + "add 30;", 6, 144);
            fault(c, "catches (((((((((10000;", 3, 16);
            fault(c, "run 7 from 30", 2, 4);
        });
        e.edge(WHERE, ", at the TOKEN's first byte (of the end at the length)", c -> {
            fault(c, "\n  stones", 1, 3);
            fault(c, "cut  10000;", 2, 5);
            fault(c, "catches 1 >= 2;", 1, 10);
            fault(c, "cut", 1, 3);
            fault(c, "cut ", 1, 4);
            fault(c, "cut 1\n\n", 1, 7);
            fault(c, "catches 1+", 1, 10);
            fault(c, "catches " + " ".repeat(292), 1, 300);
        });
        e.edge(WHERE, ", of one the least", c -> {
            fault(c, "cut 1 99999;", 1, 6);
            fault(c, "99999", 1, 0);
            fault(c, "paints ((((((((1(", 1, 16);
            fault(c, "paints 1 count;", 1, 9);
            fault(c, "cut catches;", 1, 4);
            fault(c, "catches 1;cut 1 catches;", 1, 16);
            fault(c, "catches 1;" + "cut 1;".repeat(23) + "catches 1;", 4, 148);
            fault(c, "paints 1;" + "cut 1;".repeat(23) + "paints 1;", 4, 147);
            fault(c, "cut 1;".repeat(24) + "stones;", 1, 144);
            fault(c, "cut 1;".repeat(24) + "99999;", 1, 144);
            fault(c, "paints ((((((((count", 5, 15);
        });
    }

    /** Each TOKEN in turn is another, or none, or the end: 1 at its first byte. */
    private static void spoil(Check c, String text) {
        String[] tokens = text.split(" ");
        String ahead = "";
        for (String token : tokens) {
            for (String other : new String[] {"then then", "stones", "Cut", "!", "\u00e9", ")"}) {
                boolean fits = token.equals(other);
                if (!fits) {
                    fault(c, ahead + other + " " + DEEDS, 1, ahead.length());
                }
            }
            if (!ahead.isEmpty() && !ahead.endsWith("; ")) {
                fault(c, ahead, 1, ahead.length());
            }
            ahead += token + " ";
        }
        fault(c, ahead, 0, -1);
    }

    private static void faultOfStanding(Edges e) {
        e.edge(WHERE, ": 1 it can't stand there, or is none.", c -> {
            spoil(c, DEEDS);
            fault(c, "catches 1 1;", 1, 10);
            fault(c, "catches count count;", 1, 14);
            fault(c, "catches 1(2);", 1, 9);
            fault(c, "catches round 1 2;", 1, 16);
            fault(c, "catches 1 of 2;", 1, 10);
            fault(c, "catches at;", 1, 8);
            fault(c, "paint 1 from 2;", 1, 8);
            fault(c, "place 1 at 2;", 1, 8);
            fault(c, "child 1 kind 2;", 1, 8);
            fault(c, "run 1 luck 2;", 1, 6);
            fault(c, "cut -1;", 1, 4);
            fault(c, "cut (1);", 1, 4);
            fault(c, "cut ;", 1, 4);
            fault(c, "place kind 2;", 1, 6);
            fault(c, "place 3 kind ;", 1, 13);
            fault(c, "paint at 4;", 1, 6);
            fault(c, "child luck 2;", 1, 6);
            fault(c, "run from 3;", 1, 4);
            fault(c, "year place;", 1, 5);
            fault(c, "kind 1;", 1, 0);
            fault(c, "if 1<2 then 1 else 2 end;", 1, 0);
        });
        e.edge(WHERE, "1 it can't stand there", c -> spoilLaw(c));
    }

    /** As spoil, for a law: a ")" or an "end" may stand where it is not due here, so only what stands nowhere is put. */
    private static void spoilLaw(Check c) {
        String ahead = "";
        for (String token : LAW.split(" ")) {
            for (String other : new String[] {"stones", "from", "catches", "!", "\0"}) {
                if (!ahead.isEmpty()) {
                    fault(c, ahead + other + " 1;", 1, ahead.length());
                }
            }
            if (!ahead.isEmpty()) {
                fault(c, ahead, 1, ahead.length());
            }
            ahead += token + " ";
        }
        fault(c, ahead, 0, -1);
    }

    private static void bounds(Check c, String head, int least, int most, String tail) {
        fine(c, head + least + tail, head + most + tail);
        if (least > 0) {
            fault(c, head + (least - 1) + tail, 2, head.length());
        }
        for (String more : new String[] {"" + (most + 1), "" + (most + 2), "9999", "10000", "4294967297", "9".repeat(40)}) {
            fault(c, head + more + tail, 2, head.length());
        }
    }

    private static void faultOfNumbers(Edges e) {
        e.edge(WHERE, "2 a NUMBER that isn't one of those told (above 9999;", c -> {
            fine(c, "catches 9999;", "paints 0;", "catches 00000000000000000000009999;");
            fault(c, "catches 10000;", 2, 8);
            fault(c, "paints -10000;", 2, 8);
            fault(c, "catches kinds 10000;", 2, 14);
            fault(c, "catches round 1 of 10000;", 2, 19);
            fault(c, "catches if 10000<1 then 1 else 2 end;", 2, 11);
            fault(c, "catches if 1<1 then 1 else 10000 end;", 2, 27);
            fault(c, "catches " + "9".repeat(290) + ";", 2, 8);
        });
        e.edge(WHERE, "PLACES 0 .. 29,", c -> {
            bounds(c, "place ", 0, 29, " kind 1;");
            bounds(c, "paint 1 at ", 0, 29, ";");
            bounds(c, "run 1 from ", 0, 29, ";");
            bounds(c, "cut ", 0, 29, ";");
            bounds(c, "add ", 0, 29, ";");
        });
        e.edge(WHERE, "KINDS 0 .. 3,", c -> bounds(c, "place 1 kind ", 0, 3, ";"));
        e.edge(WHERE, "PAINT, LUCK 0 .. 9,", c -> {
            bounds(c, "paint ", 0, 9, " at 1;");
            bounds(c, "child 1 luck ", 0, 9, ";");
        });
        e.edge(WHERE, "STRIDES 1 .. 9,", c -> bounds(c, "child ", 1, 9, " luck 1;"));
        e.edge(WHERE, "CHILDREN 0 .. 6,", c -> bounds(c, "run ", 0, 6, " from 1;"));
        e.edge(WHERE, "YEARS 1 .. 60).", c -> bounds(c, "year ", 1, 60, ";"));
    }

    private static void faultOfDepth(Edges e) {
        e.edge(WHERE, "3 the 9th of ( not round kinds if and - (of one ONE) that are open around one another (at it;", c -> {
            fine(c, "catches ((((((((1))))))));", "catches --------1;", "catches kinds kinds kinds kinds kinds kinds kinds kinds 1;",
                "catches if not not not not not not not 1<2 then 1 else 2 end;", "catches 1 - -(-(-(-(1))));");
            fault(c, "catches (((((((((1)))))))));", 3, 16);
            fault(c, "catches ---------1;", 3, 16);
            fault(c, "catches kinds kinds kinds kinds kinds kinds kinds kinds kinds 1;", 3, 56);
            fault(c, "catches if not not not not not not not not 1<2 then 1 else 2 end;", 3, 39);
            fault(c, "catches --------(1);", 3, 16);
            fault(c, "catches --------kinds 1;", 3, 16);
            fault(c, "catches --------round 1 of 2;", 3, 16);
            fault(c, "catches --------if 1<2 then 1 else 2 end;", 3, 16);
            fault(c, "catches -------if not 1<2 then 1 else 2 end;", 3, 18);
            fault(c, "catches -------if -1<2 then 1 else 2 end;", 3, 18);
            fault(c, "catches -------if 1<2 then -1 else 2 end;", 3, 27);
            fault(c, "catches -------if 1<2 then 1 else -2 end;", 3, 34);
            fine(c, "catches -------if 1<2 then 1 else 2 end;");
        });
        e.edge(WHERE, "open around one another", c -> {
            fine(c, "catches ((((((((1))))))))+((((((((1))))))));", "catches --------1*--------1;", "catches --------1 - 1 - 1;",
                "catches if not not not not not not not 1<2 and not not not not not not not 1<2 then ((((((1)))))) else (1) end;",
                "catches kinds 1 * ((((((((1))))))));", "catches --------1;paints --------1;",
                "catches if 1<2 then 1 else 2 end + ((((((((1))))))));", "catches (1)+(1)+(1)+(1)+(1)+(1)+(1)+(1)+(1)+(1);");
            RailingsCount x = new RailingsCount();
            c.due("left open", Check.read(x, "catches ((((((((1"), -1);
            c.due("nothing is open in the next", Check.read(x, "catches ((((((((1))))))));"), 0);
        });
        e.edge(WHERE, "round till its second is whole).", c -> {
            fine(c, "catches round (((((((1))))))) of (((((((1)))))));", "catches round 1 of 2 + ((((((((1))))))));");
            fault(c, "catches round ((((((((1)))))))) of 1;", 3, 21);
            fault(c, "catches round 1 of ((((((((1))))))));", 3, 26);
            fine(c, "catches round 1 of round 1 of round 1 of round 1 of round 1 of round 1 of round 1 of round 1 of 1;");
            fault(c, "catches " + "round 1 of ".repeat(9) + "1;", 3, 8 + 8 * 11);
            fault(c, "catches " + "round ".repeat(9) + "1" + " of 1".repeat(9) + ";", 3, 8 + 8 * 6);
        });
    }

    private static void faultsOfClauses(Edges e) {
        e.edge(WHERE, "4 catches, paints for the second time (at it).", c -> {
            fault(c, "catches 1; catches 1;", 4, 11);
            fault(c, "paints 1; paints 1;", 4, 10);
            fault(c, "catches 1;paints 1;catches", 4, 19);
            fine(c, "catches 1;paints 1;");
        });
        e.edge(WHERE, "5 a NAME that isn't of that CLAUSE (at it).", c -> {
            for (String name : new String[] {"count", "stride", "luck", "who"}) {
                fault(c, "paints 1 + " + name + ";", 5, 11);
                fault(c, "catches " + name + ";paints if 1<" + name + " then 1 else 2 end;", 5, 8 + name.length() + 13);
                fine(c, "paints 1;catches " + name + ";");
            }
        });
        e.edge(WHERE, "6 the 25th CLAUSE (at its first TOKEN).", c -> {
            fine(c, "cut 1;".repeat(24));
            fault(c, "cut 1;".repeat(24) + " cut 1;", 6, 145);
            for (String head : new String[] {"catches", "paints", "place", "paint", "child", "run", "cut", "add", "year"}) {
                fault(c, "add 1;".repeat(24) + head, 6, 144);
            }
        });
    }

    private static void laws(Edges e) {
        e.edge(WHERE, "THE TEXT (told; at first none) rules.", c -> {
            RailingsCount x = Rings.withChildren(1);
            c.due("at first none", x.about(2), -1);
            Check.read(x, "catches 4;paints 5;");
            Check.read(x, "catches 6;paints 7;");
            c.due("not told: catches", x.catches(0, 0, 1), 1);
            c.due("not told: paints", x.ofBar(0, 2), 1);
            x.by(1);
            c.due("catches", x.catches(0, 0, 1), 6);
            c.due("paints", x.ofBar(0, 2), 7);
            x.by(-1);
            c.due("none: catches", x.catches(0, 0, 1), 1);
            c.due("none: paints", x.ofBar(0, 2), 1);
        });
        e.edge(WHERE, "catches (the odds of 10): 0 at least, 10 at most; without: 1.", c -> {
            String[] sums = {"-1", "0", "10", "11", "1000*1000", "-1000*1000"};
            int[] due = {0, 0, 10, 10, 10, 0};
            for (int i = 0; i < sums.length; i++) {
                RailingsCount x = Rings.railing(3, "catches " + sums[i] + ";");
                c.due("catches " + sums[i], x.catches(0, 0, 1), due[i]);
                c.due("a run by " + sums[i], x.run(0, 0), due[i] == 0 ? 3 : 1);
            }
            c.due("without a text", Rings.withChildren(1).catches(0, 0, 1), 1);
            c.due("a text without", Rings.railing(3, "paints 5;").catches(0, 0, 1), 1);
        });
        e.edge(WHERE, "paints: 0 at least, 9 at most; without: 1.", c -> {
            String[] sums = {"-1", "0", "9", "10", "1000*1000", "-1000*1000"};
            int[] due = {0, 0, 9, 9, 9, 0};
            for (int i = 0; i < sums.length; i++) {
                RailingsCount x = Rings.railing(3, "paints " + sums[i] + ";");
                c.due("paints " + sums[i], x.ofBar(0, 2), due[i]);
                c.due("a year by " + sums[i], paintBehindOneYear(sums[i]), due[i]);
            }
            c.due("without a text", new RailingsCount().ofBar(0, 2), 1);
            c.due("a text without", Rings.railing(3, "catches 5;").ofBar(0, 2), 1);
        });
    }

    private static void played(Edges e) {
        e.edge(WHERE, "PLAYED by a TEXT: its CLAUSES but laws, in their order, as by hand", c -> {
            RailingsCount x = Rings.withChildren(1);
            Check.read(x, "catches 10;paints 9;");
            Check.read(x, "");
            Check.read(x, "catches 10;cut 4;paints 9;add 4;cut 4;run 0 from 1;year 1;");
            String ahead = Rings.seen(x);
            c.due("laws alone", x.played(0), -1);
            c.due("no clause", x.played(1), -1);
            c.due("nothing is done", Rings.seen(x), ahead);
            c.due("all", x.played(2), -1);
            c.due("each a step", x.about(3), 5);
            c.due("its law does not rule", x.of(0, 2), 15);
            c.due("nor its paints", x.ofBar(0, 1), 1);
            RailingsCount y = new RailingsCount();
            Check.read(y, "add 4;cut 4;");
            c.due("in their order", y.played(0), 0);
        });
        e.edge(WHERE, "; one that can't be ends it", c -> {
            String[] texts = {"run 1 from 0;", "run 0 from 0;", "cut 5;", "add 6;"};
            for (String text : texts) {
                RailingsCount x = Rings.withChildren(1);
                x.run(0, 0);
                x.bar(5, 2);
                Check.read(x, "paint 3 at 3;" + text + "paint 4 at 4;");
                c.due(text, x.played(0), 1);
                c.due("ahead of " + text, x.ofBar(3, 1), 3);
                c.due("behind " + text, x.ofBar(4, 1), 0);
            }
            RailingsCount full = Rings.withChildren(6);
            Check.read(full, "child 1 luck 1;child 1 luck 1;cut 1;");
            c.due("the eighth child", full.played(0), 1);
            c.due("nothing behind it", full.ofBar(1, 0), 1);
        });
        e.edge(WHERE, ": its number among all CLAUSES (from 0)", c -> {
            RailingsCount x = new RailingsCount();
            Check.read(x, "add 1;");
            Check.read(x, "catches 1;paints 1;cut 1;cut 1;");
            Check.read(x, "cut 2;".repeat(23) + "cut 3;");
            Check.read(x, "cut 4;add 4;".repeat(11) + "cut 5;cut 5;");
            c.due("the first", x.played(0), 0);
            c.due("laws are among them", x.played(1), 3);
            c.due("the second", x.played(2), 1);
            c.due("the last", x.played(3), 23);
        });
        e.edge(WHERE, "; what was done stays.", c -> {
            RailingsCount x = new RailingsCount();
            Check.read(x, "place 1 kind 2;cut 2;year 1;child 2 luck 2;add 0;");
            c.due("ends", x.played(0), 4);
            c.due("kind", x.ofBar(1, 0), 2);
            c.due("cut", x.ofBar(2, 0), 0);
            c.due("YEAR", x.is(0), 1);
            c.due("child", x.about(0), 1);
            c.due("steps", x.about(3), 2);
        });
    }

    private static void playedYears(Edges e) {
        e.edge(WHERE, "(of so many YEARS those that can pass do)", c -> {
            RailingsCount x = Rings.inYear(9990);
            Check.read(x, "cut 1;year 9;cut 2;");
            c.due("all nine pass", x.played(1), -1);
            c.due("YEAR", x.is(0), 9999);
            RailingsCount y = Rings.inYear(9990);
            y.child(1, 1);
            Check.read(y, "cut 1;year 10;cut 2;");
            c.due("the tenth can't", y.played(1), 1);
            c.due("nine do", y.is(0), 9999);
            c.due("who had no NUMBER ran", y.is(3), 0);
            c.due("nothing behind it", y.ofBar(2, 0), 1);
            c.due("none can", y.played(1), 0);
            RailingsCount z = Rings.inLastYear();
            Check.read(z, "cut 1;year 1;cut 2;");
            c.due("not one", z.played(1), 1);
            c.due("nothing behind it", z.ofBar(2, 0), 1);
        });
    }
}
