import java.nio.charset.StandardCharsets;

/** The boundaries that part II names: tokens, clauses, faults, values, scripts; one test each. */
public final class TextEdgeTests {
    public static void main(String[] args) {
        bytes();
        tokens();
        clauses();
        numbers();
        faultsPlaced();
        leastFault();
        opened();
        namesAndTwice();
        values();
        signs();
        laws();
        lamps();
        scripts();
        scriptsThatCannot();
        Due.finish("TextEdgeTests");
    }

    static void due(String call, long got, long want) {
        Due.due(call, got, want);
    }

    static void fault(String text, int number, int place) {
        LitByLosers x = new LitByLosers();
        due("text " + text, Due.text(x, text), number == 0 ? 0 : -1);
        due("fault of " + text, x.fault(0), number);
        due("place of " + text, x.fault(1), place);
        due("texts behind " + text, x.about(2), number == 0 ? 1 : 0);
        due("tape behind " + text, x.about(8), 0);
    }

    static void whole(String text) {
        fault(text, 0, -1);
    }

    /** The fault is where the second part begins. */
    static void at(int number, String ahead, String there) {
        fault(ahead + there, number, ahead.length());
    }

    static void bytes() {
        Due.edge("of up to 300 bytes", () -> {
            whole("");
            whole(" ".repeat(300));
            whole("loses 1" + " ".repeat(292) + ";");
            whole("loses 1;" + "\n".repeat(292));
            whole("loses " + "1+".repeat(146) + "1;");
            whole("fills " + "1*".repeat(146) + "1;");
            whole("loses" + " ".repeat(289) + "9999 ;");
            at(1, "loses 1" + " ".repeat(292), "!");
            at(1, "loses 1" + " ".repeat(293), "");
            at(2, "loses" + " ".repeat(290), "10000");
            at(1, "loses " + "1+".repeat(147), "");
            for (String last : new String[] {"<", ">", "=", "<=", ">=", "#"}) at(1, "loses if" + " ".repeat(291 - last.length()) + "1" + last, "");
            at(1, "loses if 1" + " ".repeat(284), "wordss");
            at(1, "loses" + " ".repeat(291) + "9999", "");
            at(1, "loses" + " ".repeat(286) + "999", ")" + ";".repeat(5));
        });
        Due.edge("TOKENS, blanks (32, 10) aside", () -> {
            for (int b = 0; b < 256; b++) {
                char sign = (char) b;
                boolean blank = b == 32 || b == 10;
                boolean digit = b >= '0' && b <= '9';
                boolean follows = "+-*/".indexOf(sign) >= 0;
                if (blank || digit) whole("loses 1" + sign + ";");
                else if (follows || sign == ';') at(1, "loses 1" + sign, ";");
                else at(1, "loses 1", sign + ";");
                if (blank) whole(sign + "loses 1;" + sign);
                else at(1, "", sign + " loses 1;");
            }
        });
        Due.edge("letters a .. z, A .. Z one behind the other (one TOKEN)", () -> {
            for (char sign : "azAZmM".toCharArray()) at(1, "", "loses" + sign + " 1;");
            for (char sign : "`{@[".toCharArray()) at(1, "loses", sign + " 1;");
            for (String word : new String[] {"LOSES", "Loses", "loseS", "lose", "losess", "l"}) at(1, "", word + " 1;");
            at(1, "loses ", "Lit;");
            at(1, "loses ", "lits;");
            at(1, "loses ", "li t;");
            at(1, "loses lit ", "lit;");
            at(1, "loses if 1=1 and", "");
            at(1, "loses if 1=1 ", "an");
        });
        Due.edge("digits likewise", () -> {
            whole("loses1;fills2;");
            whole("night60;night 1;turns9by9;person99slip10;argue7by3to3;pour99by3;snuff9;");
            at(1, "loses 1/", ";");
            at(1, "loses 1", ":;");
            at(1, "loses 12 ", "3;");
            at(1, "loses 12\n", "3;");
            at(1, "night 6 ", "0;");
        });
    }

    static void tokens() {
        Due.edge("<= >= < > = # + - * / ( ) ; (the longest)", () -> {
            String end = " then 1 else 2 end;";
            for (String sign : new String[] {"<=", ">=", "<", ">", "=", "#"}) whole("loses if 1" + sign + "1" + end);
            at(1, "loses if 1< ", "=1" + end);
            at(1, "loses if 1>\n", "=1" + end);
            at(1, "loses if 1=", "<1" + end);
            at(1, "loses if 1=", ">1" + end);
            at(1, "loses if 1=", "=1" + end);
            at(1, "loses if 1<=", "=1" + end);
            at(1, "loses if 1<", "<=1" + end);
            at(1, "loses if 1<", ">1" + end);
            at(1, "loses if 1#", "=1" + end);
            at(1, "loses if 1", "!=1" + end);
            at(1, "loses if 1<", "");
            at(1, "loses if 1<=", "");
            at(1, "loses if 1>", "");
        });
        Due.edge("The tape has its first n bytes alone", () -> {
            // what was on the tape behind its end is not read with it
            String[] texts = {"night 1;9", "night 1; ;", "loses 1;loses", "loses if 1<=2 then", "loses 12345;", "losesx;"};
            int[] ends = {8, 8, 8, 12, 7, 5};
            int[] faults = {0, 0, 0, 1, 1, 1};
            int[] places = {-1, -1, -1, 12, 7, 5};
            for (int i = 0; i < texts.length; i++) {
                LitByLosers x = new LitByLosers();
                Due.tape(x, texts[i].getBytes(StandardCharsets.ISO_8859_1));
                due("end", x.end(ends[i]), ends[i]);
                due("text " + texts[i], x.text(), faults[i] == 0 ? 0 : -1);
                due("fault " + texts[i], x.fault(0), faults[i]);
                due("place " + texts[i], x.fault(1), places[i]);
            }
            LitByLosers y = new LitByLosers();
            due("a long one", Due.text(y, "loses 1" + "+11".repeat(90) + ";"), 0);
            due("a short one", Due.text(y, "loses "), -1);
            due("place", y.fault(1), 6);
            due("a short one", Due.text(y, "loses 1"), -1);
            due("place", y.fault(1), 7);
            due("none", Due.text(y, ""), 1);
        });
    }

    static void clauses() {
        Due.edge("{CLAUSE}, 24 at most", () -> {
            whole("");
            whole("snuff 1;");
            whole("snuff 1;".repeat(24));
            at(6, "snuff 1;".repeat(24), "snuff 1;");
            at(6, "snuff 1;".repeat(24) + " \n", "snuff 1;");
            at(6, "loses 1;fills 1;" + "snuff 1;".repeat(22), "night 1;");
            for (String first : new String[] {"loses", "fills", "person", "turns", "argue", "pour", "snuff", "night"}) {
                at(6, "snuff 1;".repeat(24), first);
                at(6, "snuff 1;".repeat(24), first + " 99999!");
            }
            at(1, "snuff 1;".repeat(23) + "snuff 1", "");
            at(1, "snuff 1;".repeat(24), "lit");
            at(1, "snuff 1;".repeat(24), ";");
            at(1, "snuff 1;".repeat(24), "!");
            at(1, "snuff 1;".repeat(24), "1");
        });
        Due.edge("loses SUM ; or fills SUM ; (each once)", () -> {
            whole("loses 1;fills 1;");
            whole("fills 1;loses 1;");
            at(4, "loses 1;", "loses 1;");
            at(4, "fills 1;", "fills 1;");
            at(4, "loses 1;fills 1;snuff 1;", "fills");
            at(4, "snuff 1;".repeat(22) + "fills 1;loses 1;", "loses 1;");
        });
        Due.edge("every CLAUSE ends by ;", () -> {
            for (String clause : new String[] {"loses 1", "fills 1", "person 1 slip 1", "turns 1 by 1", "argue 1 by 1 to 1", "pour 1 by 1",
                "snuff 1", "night 1"}) {
                whole(clause + ";");
                whole(clause + " ;" + "snuff 1;");
                at(1, clause, "");
                at(1, clause + " ", "snuff 1;");
                at(1, clause + ";", ";");
                for (int cut = 1; cut < clause.length(); cut++) {
                    if (clause.charAt(cut - 1) == ' ' || cut < clause.indexOf(' ')) {
                        LitByLosers x = new LitByLosers();
                        due("cut " + clause + " at " + cut, Due.text(x, clause.substring(0, cut)), -1);
                        due("fault of a cut " + clause, x.fault(0), 1);
                        due("place of a cut " + clause + " at " + cut, x.fault(1), cut < clause.indexOf(' ') ? 0 : cut);
                    }
                }
            }
        });
    }

    /** A clause with its bounds: the text ahead of the number, the least, the most, the text behind it. */
    static void bounds(String ahead, int least, int most, String behind) {
        whole(ahead + least + behind);
        whole(ahead + most + behind);
        whole(ahead + "000" + most + behind);
        at(2, ahead, most + 1 + behind);
        at(2, ahead, "9999" + behind);
        at(2, ahead, "10000" + behind);
        at(2, ahead, "4294967296" + behind);
        at(2, ahead, "18446744073709551617" + behind);
        if (least > 0) at(2, ahead, least - 1 + behind);
        at(1, ahead, "-" + least + behind);
        at(1, ahead, "(" + least + ")" + behind);
        at(1, ahead, "lit" + behind);
    }

    static void numbers() {
        Due.edge("OIL 0 .. 99", () -> bounds("person ", 0, 99, " slip 0;"));
        Due.edge("SLIP 0 .. 10", () -> bounds("person 0 slip ", 0, 10, ";"));
        Due.edge("LAMPS 0 .. 9", () -> bounds("snuff ", 0, 9, ";"));
        Due.edge("LAMPS 0 .. 9, of turns", () -> bounds("turns ", 0, 9, " by 0;"));
        Due.edge("of turns by 0 .. 9", () -> bounds("turns 0 by ", 0, 9, ";"));
        Due.edge("DISPUTES 0 .. 7", () -> bounds("argue ", 0, 7, " by 0 to 1;"));
        Due.edge("PEOPLE 0 .. 3, of argue by", () -> bounds("argue 0 by ", 0, 3, " to 1;"));
        Due.edge("PEOPLE 0 .. 3, of argue to", () -> bounds("argue 0 by 0 to ", 0, 3, ";"));
        Due.edge("of pour 1 .. 99", () -> bounds("pour ", 1, 99, " by 0;"));
        Due.edge("PEOPLE 0 .. 3, of pour", () -> bounds("pour 1 by ", 0, 3, ";"));
        Due.edge("NIGHTS 1 .. 60", () -> bounds("night ", 1, 60, ";"));
        Due.edge("2 a NUMBER that isn't one of those told (above 9999", () -> {
            for (String ahead : new String[] {"loses ", "fills 1+", "loses (", "fills -", "loses lamp ", "fills around ", "loses around 1 of ",
                "fills if ", "loses if 1<", "fills if 1=1 then ", "loses if 1=1 then 1 else "}) {
                at(2, ahead, "10000");
                at(2, ahead, "99999");
                at(2, ahead, "100000000000000000000");
                at(1, ahead + "9999", "");
                at(1, ahead + "0000000000000000000009999", "");
            }
            whole("loses 9999;");
            whole("fills 00000000010;");
        });
    }

    static void faultsPlaced() {
        Due.edge("the first as TOKENS are come to", () -> {
            at(1, "loses ", "; fills other; loses 10000;");
            at(2, "loses ", "10000; fills other; loses !");
            at(5, "fills ", "other; loses 10000; !");
            at(4, "loses 1;", "loses 10000 !");
            at(3, "loses ((((((((", "(who;");
            at(2, "person ", "100 slip 11;");
            at(2, "person 99 slip ", "11 !");
            at(1, "person 99 ", "11;");
        });
        Due.edge("at the TOKEN's first byte (of the end at the length)", () -> {
            at(1, "\n  \n", "oops");
            at(2, "loses   ", "10000");
            at(1, "", "snuffx 1;");
            at(1, "loses 1", "");
            at(1, "loses 1   ", "");
            at(1, "loses 1 \n\n", "");
            at(1, "loses", "");
            at(1, "loses ", "");
            at(1, "night 1;night", "");
            at(1, "loses 1" + " ".repeat(293), "");
        });
    }

    static void leastFault() {
        Due.edge("of one the least: 1 ahead of 2", () -> {
            at(1, "", "10000");
            at(1, "loses 1 ", "10000;");
            at(1, "person ", "slip 10000;");
            at(1, "snuff 1 ", "10000;");
        });
        Due.edge("of one the least: 1 ahead of 3", () -> {
            for (String ninth : new String[] {"(", "lamp", "around", "if"}) at(1, "loses ((((((((1 ", ninth);
            at(1, "loses ((((((((", "not 1=1");
            at(1, "loses if (((((((", "not 1=1");
        });
        Due.edge("of one the least: 1 ahead of 4, 5, 6", () -> {
            at(1, "loses ", "loses 1;");
            at(1, "loses 1;fills ", "loses 1;");
            at(1, "loses 1 ", "who;");
            at(1, "person ", "who slip 1;");
            at(1, "snuff ", "other;");
            at(1, "snuff 1;".repeat(24), "who");
        });
        Due.edge("of one the least: 4 ahead of 6", () -> {
            at(4, "loses 1;" + "snuff 1;".repeat(23), "loses 1;");
            at(6, "loses 1;" + "snuff 1;".repeat(23), "fills 1;");
            at(4, "fills 1;" + "snuff 1;".repeat(23), "fills 1;");
            at(6, "fills 1;" + "snuff 1;".repeat(23), "loses 1;");
        });
    }

    static void opened() {
        String[] openers = {"(", "-", "lamp ", "around ", "around 1 of ", "if ", "if 1=1 then ", "if 1=1 then 1 else "};
        Due.edge("3 the 9th of ( not around lamp if and - (of one ONE)", () -> {
            for (String opener : openers) {
                String eight = "loses " + opener.repeat(8);
                if (eight.length() > 280) continue;
                fault(eight + "1", 1, eight.length() + 1);
                for (String ninth : openers) {
                    if (eight.length() + ninth.length() < 290) at(3, eight, ninth);
                }
            }
            at(3, "loses if " + "not ".repeat(7), "not 1=1");
            at(3, "loses if " + "not ".repeat(7), "lamp 1=1");
            fault("loses if " + "not ".repeat(7) + "1", 1, 38);
            at(3, "loses (-lamp around 1 of if not if (", "(1");
        });
        Due.edge("that are open around one another", () -> {
            whole("loses " + "(1)+".repeat(20) + "(1);");
            whole("loses " + "-1-".repeat(20) + "-1;");
            whole("loses " + "lamp 1+".repeat(20) + "lamp 1;");
            whole("loses " + "around 1 of 1+".repeat(15) + "1;");
            whole("loses " + "if 1=1 then 1 else 1 end+".repeat(9) + "1;");
            whole("loses if " + "not 1=1 and ".repeat(20) + "1=1 then 1 else 1 end;");
            whole("loses if " + "not 1=1 or ".repeat(20) + "not 1=1 then 1 else 1 end;");
            whole("loses ((((((((1))))))))+((((((((1))))))));");
            whole("loses --------1+--------1;");
            whole("loses if (((((((1)))))))=(((((((1))))))) then (((((((1))))))) else (((((((1))))))) end+((((((((1))))))));");
            whole("loses if not ((((((1))))))=((((((1)))))) and (((((((1)))))))=1 then 1 else 1 end;");
            at(3, "loses if not ((((((1))))))=((((((1)))))) and (((((((", "(1");
            at(3, "loses if not ((((((1))))))=((((((", "(1");
            at(3, "loses if 1=1 then 1 else (((((((", "(1");
        });
        Due.edge("one behind the other isn't around one another", () -> {
            whole("loses " + "1*".repeat(12) + "((((((((1))))))));");
            whole("loses " + "1+".repeat(12) + "((((((((1))))))));");
            whole("loses " + "1/1-".repeat(12) + "((((((((1))))))));");
            whole("loses if " + "1=1 or ".repeat(12) + "(((((((1)))))))=1 then 1 else 1 end;");
            whole("loses if " + "1=1 and ".repeat(12) + "(((((((1)))))))=1 then 1 else 1 end;");
            at(3, "loses " + "1*".repeat(12) + "((((((((", "(1");
            at(3, "loses if " + "1=1 or ".repeat(12) + "(((((((", "(1");
        });
        Due.edge("around till its second is whole", () -> {
            whole("loses around (((((((1))))))) of (((((((1)))))));");
            at(3, "loses around (((((((", "(1");
            at(3, "loses around (((((((1))))))) of (((((((", "(1");
            whole("loses around 1 of 1+((((((((1))))))));");
            whole("loses around 1 of 1*((((((((1))))))));");
            whole("loses around around 1 of 1 of around 1 of 1;");
            whole("loses " + "around 1 of ".repeat(8) + "1;");
            at(3, "loses " + "around 1 of ".repeat(8), "around");
            whole("loses " + "around ".repeat(8) + "1" + " of 1".repeat(8) + ";");
            at(3, "loses " + "around ".repeat(8), "around 1");
        });
    }

    static void namesAndTwice() {
        Due.edge("5 a NAME that isn't of that CLAUSE (at it)", () -> {
            for (String name : new String[] {"night", "lit", "number", "size", "oil", "slip", "wrong"}) {
                whole("loses " + name + ";");
                whole("fills " + name + ";");
            }
            whole("loses other;");
            whole("loses against;");
            whole("fills who;");
            at(5, "loses ", "who;");
            at(5, "fills ", "other;");
            at(5, "fills ", "against;");
            for (String ahead : new String[] {"-", "(", "1+", "1*", "lamp ", "around ", "around 1 of ", "if ", "if 1<", "if not ", "if 1=1 and ",
                "if 1=1 or ", "if 1=1 then ", "if 1=1 then 1 else "}) {
                at(5, "loses " + ahead, "who");
                at(5, "fills " + ahead, "against");
                fault("loses " + ahead + "against", 1, 13 + ahead.length());
                fault("fills " + ahead + "who", 1, 9 + ahead.length());
            }
            at(5, "fills who;loses ", "who;");
            at(5, "loses other;fills ", "other;");
            whole("loses other+other-other+against*other*against/other;");
            whole("fills who*who*who/who+who+who-who;");
            whole("loses if other=1 or other=2 or other=3 and against=4 and against=5 then other else against end;");
            whole("fills if who=1 or who=2 or who=3 and who=4 and who=5 then who else who end;");
            at(5, "loses other+other+", "who;");
            at(5, "fills who*who*", "other;");
        });
    }

    /** A town where NIGHT is 0, all is dark, PERSON 0 has 40 and slip 3, PERSON 1 has 7 and slip 8. */
    static LitByLosers town(String text) {
        LitByLosers x = Due.ruled(text);
        x.person(40, 3);
        x.person(7, 8);
        x.dispute(7);
        x.dispute(1 << 9 | 1);
        return x;
    }

    static void fills(String sum, int want) {
        due("fills " + sum, town("fills " + sum + ";").fills(1, 1), want);
    }

    static void loses(String sum, int want) {
        due("loses " + sum, town("loses " + sum + ";").loses(1, 0, 1), want);
    }

    static void values() {
        String most = "1000*1000";
        Due.edge("what is above 1000000 .. is that, at each step", () -> {
            fills(most + "-999*1001", 1);
            fills(most + "+0-999*1001", 1);
            fills(most + "+1-999*1001", 1);
            fills(most + "+2-999*1001", 1);
            fills(most + "+1-" + most + "+3", 3);
            fills(most + "+9999-" + most + "+3", 3);
            fills("1001*1000-" + most + "+3", 3);
            fills("9999*9999-" + most + "+3", 3);
            fills("9999*9999*9999-" + most + "+3", 3);
            fills(most + "*" + "(" + most + ")-" + most + "+3", 3);
            fills("999*1001-(999*1001)+1", 1);
            fills("999*1001+1-" + most + "+2", 2);
            fills("999*1001+2-" + most + "+2", 2);
            fills("0-" + most + "-(0-" + most + ")", 0);
            fills(most + "-(0-" + most + ")-" + most + "+4", 4);
            fills(most + "-(0-1)-" + most + "+4", 4);
        });
        Due.edge("(below the same less)", () -> {
            fills("0-" + most + "+1000*1000+3", 3);
            fills("0-" + most + "-1+" + most + "+3", 3);
            fills("0-" + most + "-2+" + most + "+3", 3);
            fills("0-1001*1000+" + most + "+3", 3);
            fills("1001*-1000+" + most + "+3", 3);
            fills("-9999*9999+" + most + "+3", 3);
            fills("-(" + most + "+1)+" + most + "+3", 3);
            fills("-(-9999*9999)-" + most + "+3", 3);
            fills("-1000*1000-1+" + most + "+3", 3);
            fills("-999*1001-1+" + most + "+3", 3);
            fills("-999*1001-2+" + most + "+3", 3);
        });
        Due.edge("/ cuts towards 0, by 0 it is 0", () -> {
            fills("9/10+4", 4);
            fills("0-9/10+4", 4);
            fills("-9/10+4", 4);
            fills("9/-10+4", 4);
            fills("-9/-10+4", 4);
            fills("-10/10+4", 3);
            fills("-19/10+4", 3);
            fills("19/-10+4", 3);
            fills("-19/-10+4", 5);
            fills("0/0+4", 4);
            fills("9/0+4", 4);
            fills("-9/0+4", 4);
            fills("9/0*9+4", 4);
            fills("9/(1/9)+4", 4);
            fills(most + "/0+4", 4);
            fills(most + "/(0-1)+" + most + "+4", 4);
        });
        Due.edge("From the left", () -> {
            fills("9-5-2", 2);
            fills("9-5+2", 6);
            fills("64/4/2", 8);
            fills("8/3*3", 6);
            fills("3*8/5", 4);
            fills("2+2*2", 6);
            fills("9-2*2-1", 4);
            fills("-2+5", 3);
            fills("- 2*-3", 6);
        });
    }

    static void ask(String either, boolean want) {
        fills("if " + either + " then 7 else 2 end", want ? 7 : 2);
    }

    static void signs() {
        Due.edge("SUM one of < <= > >= = # (unlike) SUM", () -> {
            int[][] rows = {{1, 2}, {2, 2}, {3, 2}};
            for (int[] row : rows) {
                String a = row[0] + "";
                String b = row[1] + "";
                ask(a + "<" + b, row[0] < row[1]);
                ask(a + "<=" + b, row[0] <= row[1]);
                ask(a + ">" + b, row[0] > row[1]);
                ask(a + ">=" + b, row[0] >= row[1]);
                ask(a + "=" + b, row[0] == row[1]);
                ask(a + "#" + b, row[0] != row[1]);
                ask("-" + a + "<" + "-" + b, row[0] > row[1]);
                ask("not " + a + "<" + b, row[0] >= row[1]);
            }
        });
        Due.edge("EITHER: BOTH {or BOTH}. BOTH: ASK {and ASK}. ASK: not ASK", () -> {
            for (int bits = 0; bits < 8; bits++) {
                boolean p = (bits & 1) != 0;
                boolean q = (bits & 2) != 0;
                boolean r = (bits & 4) != 0;
                String a = p ? "1=1" : "1=2";
                String b = q ? "1=1" : "1=2";
                String c = r ? "1=1" : "1=2";
                ask(a + " and " + b + " or " + c, p && q || r);
                ask(a + " or " + b + " and " + c, p || q && r);
                ask(a + " and " + b + " and " + c, p && q && r);
                ask(a + " or " + b + " or " + c, p || q || r);
                ask("not " + a + " and " + b + " or " + c, !p && q || r);
                ask("not " + a + " or not " + b + " and not not " + c, !p || !q && r);
            }
        });
    }

    static void laws() {
        Due.edge("loses (the odds of 10): 0 at least, 10 at most", () -> {
            String[] sums = {"0-9999", "-1", "0", "1", "9", "10", "11", "9999", "9999*9999", "-9999*9999"};
            int[] want = {0, 0, 0, 1, 9, 10, 10, 10, 10, 0};
            for (int i = 0; i < sums.length; i++) loses(sums[i], want[i]);
        });
        Due.edge("fills: 0 at least, 9 at most", () -> {
            String[] sums = {"0-9999", "-1", "0", "1", "8", "9", "10", "9999", "9999*9999", "-9999*9999"};
            int[] want = {0, 0, 0, 1, 8, 9, 9, 9, 9, 0};
            for (int i = 0; i < sums.length; i++) fills(sums[i], want[i]);
        });
        Due.edge("its laws wherever they stand", () -> {
            String[] texts = {"loses 2;fills 3;", "fills 3;loses 2;", "fills 3;snuff 1;loses 2;night 1;", "person 1 slip 1;loses 2;turns 1 by 1;fills 3;",
                "argue 1 by 2 to 3;fills 1+2;loses 4-1-1;"};
            for (String text : texts) {
                LitByLosers x = town(text);
                due("loses by " + text, x.loses(0, 0, 1), 2);
                due("fills by " + text, x.fills(0, 1), 3);
            }
        });
        Due.edge("of the first one in loses, of who pays in fills; the other one's SLIP, OIL", () -> {
            // OIL 11, 22, 33, 44; SLIP 1, 2, 3, 4: each NAME tells whose it is
            String[] sums = {"slip", "other", "oil/11", "against/11", "number"};
            for (int i = 0; i < 5; i++) {
                LitByLosers x = four("loses " + sums[i] + ";");
                for (int d = 0; d < 8; d++) {
                    for (int a = 0; a < 4; a++) {
                        int b = (a + 1 + d % 3) % 4;
                        int[] want = {a + 1, b + 1, a + 1, b + 1, d};
                        due(sums[i] + " of " + d + ", " + a + ", " + b, x.loses(d, a, b), want[i]);
                    }
                }
            }
            String[] others = {"slip", "oil/11", "who", "number", "size"};
            for (int i = 0; i < 5; i++) {
                LitByLosers x = four("fills " + others[i] + ";");
                for (int d = 0; d < 8; d++) {
                    for (int a = 0; a < 4; a++) {
                        int[] want = {a + 1, a + 1, a, d, d % 3 + 1};
                        due(others[i] + " of " + d + ", " + a, x.fills(d, a), want[i]);
                    }
                }
            }
        });
        Due.edge("as much when ARGUED", () -> {
            // the first draw is 7 by 10
            String[] sums = {"slip*2", "other*2", "oil/11*2", "against/11*2", "number+1"};
            for (int i = 0; i < 5; i++) {
                for (int d = 0; d < 8; d++) {
                    for (int a = 0; a < 4; a++) {
                        int b = (a + 1 + d % 3) % 4;
                        int[] odds = {2 * a + 2, 2 * b + 2, 2 * a + 2, 2 * b + 2, d + 1};
                        LitByLosers x = four("loses " + sums[i] + ";fills who*2+number/4;");
                        int loser = 7 < odds[i] ? a : b;
                        due(sums[i] + ", " + d + ": " + a + " against " + b, x.argue(d, a, b), loser);
                        due("what is paid", x.of(loser, 0), 11 * loser + 11 - loser * 2 - d / 4);
                        due("wrong", x.of(loser, 2), 1);
                        due("nobody else pays", x.is(3), 110 - loser * 2 - d / 4);
                    }
                }
            }
        });
        Due.edge("without: the first one's SLIP", () -> {
            LitByLosers x = town("fills 1;");
            due("slip", x.loses(0, 0, 1), 3);
            due("slip", x.loses(0, 1, 0), 8);
            LitByLosers y = town("");
            due("slip", y.loses(1, 1, 0), 8);
        });
        Due.edge("without: how many LAMPS the DISPUTE has (9 at most)", () -> {
            LitByLosers x = Due.ruled("loses 1;");
            x.person(1, 1);
            int[] lamps = {0, 1, 512, 3, 255, 511, 1022, 1023};
            int[] want = {0, 1, 1, 2, 8, 9, 9, 9};
            for (int i = 0; i < 8; i++) {
                x.dispute(lamps[i]);
                due("fills of " + lamps[i], x.fills(i, 0), want[i]);
            }
            LitByLosers y = Due.ruled("fills size;");
            y.person(1, 1);
            y.dispute(1023);
            due("size is ten, fills nine", y.fills(0, 0), 9);
            LitByLosers z = Due.ruled("fills size-9;");
            z.person(1, 1);
            z.dispute(1023);
            due("size is ten", z.fills(0, 0), 1);
        });
        Due.edge("THE TEXT (told; at first none) rules", () -> {
            LitByLosers x = new LitByLosers();
            x.person(9, 3);
            x.person(9, 8);
            x.dispute(7);
            Due.text(x, "loses 1;fills 2;");
            due("at first none", x.about(3), -1);
            due("loses", x.loses(0, 0, 1), 3);
            due("fills", x.fills(0, 0), 3);
            x.by(0);
            due("loses", x.loses(0, 0, 1), 1);
            due("fills", x.fills(0, 0), 2);
            x.by(-1);
            due("loses", x.loses(0, 0, 1), 3);
            due("fills", x.fills(0, 0), 3);
        });
    }

    static LitByLosers four(String text) {
        LitByLosers x = Due.ruled(text);
        for (int i = 1; i <= 4; i++) x.person(11 * i, i);
        for (int d = 0; d < 8; d++) x.dispute((2 << d % 3) - 1);
        return x;
    }

    static void lamps() {
        Due.edge("lamp ONE (1, if the LAMP of that number is lit; else 0, also for others)", () -> {
            for (int lamp = 0; lamp < 10; lamp++) {
                LitByLosers x = town("fills lamp " + lamp + "*5+lamp (0-1)+lamp 10+lamp 32+lamp 42+lamp 9999+lamp (9999*9999)+2;");
                due("dark " + lamp, x.fills(0, 0), 2);
                Due.light(x, 1 << lamp);
                due("lit " + lamp, x.fills(0, 0), 7);
                Due.light(x, 1023 & ~(1 << lamp));
                due("the others are lit " + lamp, x.fills(0, 0), 2);
            }
        });
        Due.edge("around ONE of ONE (how many LAMPS two are apart by the shorter way", () -> {
            for (int a = 0; a < 10; a++) {
                StringBuilder row = new StringBuilder();
                for (int b = 0; b < 10; b++) {
                    int apart = Math.min(Math.floorMod(a - b, 10), Math.floorMod(b - a, 10));
                    row.append(b == 0 ? "" : "+").append("(around ").append(a).append(" of ").append(b).append('-').append(apart).append(")*");
                    row.append("(around ").append(a).append(" of ").append(b).append('-').append(apart).append(")");
                    if (b % 5 == 4) {
                        fills("1+" + row, 1);
                        row = new StringBuilder("0");
                    }
                }
            }
        });
        Due.edge("0, if one is no LAMP", () -> {
            String[] others = {"10", "9999", "(0-1)", "-5", "(9999*9999)", "-9999"};
            for (String other : others) {
                fills("around " + other + " of 4+3", 3);
                fills("around 4 of " + other + "+3", 3);
                fills("around " + other + " of " + other + "+3", 3);
            }
            fills("around 9 of 4+3", 8);
        });
        Due.edge("size, number, night, lit, oil, slip, wrong, other, against, who at their least and most", () -> {
            LitByLosers x = Due.ruled("loses slip+other-10;fills who+number+size-10;");
            for (int i = 0; i < 4; i++) x.person(i == 0 ? 0 : 99, i == 0 ? 0 : 10);
            for (int i = 0; i < 8; i++) x.dispute(i == 0 ? 0 : 1023);
            due("least", x.fills(0, 0), 0);
            due("most", x.fills(7, 3), 9);
            due("one by one", x.fills(1, 3), 4);
            due("least", x.loses(0, 0, 1), 0);
            due("most", x.loses(0, 1, 2), 10);
            Due.text(x, "loses oil/99+against/99*2;fills lit+night/9999*3-10+10;");
            x.by(1);
            due("oil 0, against 99", x.loses(0, 0, 1), 2);
            due("oil 99, against 0", x.loses(0, 1, 0), 1);
            due("all dark, night 0", x.fills(0, 0), 0);
            x.argue(1, 0, 1);
            due("all lit, nine at most", x.fills(0, 0), 9);
        });
        Due.edge("night is 9999 at most, wrong likewise", () -> {
            LitByLosers x = Due.ruled("loses 10-slip+slip-10+slip;fills night/9999*4+wrong/9999*3;");
            x.person(50, 10);
            x.person(50, 0);
            x.dispute(0);
            for (int left = 9998; left > 0; left -= 60) x.night(Math.min(left, 60));
            due("one below both", x.fills(0, 0), 0);
            x.night(1);
            due("both", x.fills(0, 0), 7);
            due("night alone", x.fills(0, 1), 4);
        });
    }

    static void scripts() {
        Due.edge("turns .. (a DISPUTE of the first LAMP and so many more behind it, around, 0 .. 9)", () -> {
            for (int first = 0; first < 10; first++) {
                for (int half = 0; half < 2; half++) {
                    StringBuilder s = new StringBuilder();
                    for (int more = half * 5; more < half * 5 + 5; more++) s.append("turns ").append(first).append(" by ").append(more).append(';');
                    LitByLosers x = new LitByLosers();
                    Due.text(x, s.toString());
                    due("played", x.played(0), -1);
                    for (int i = 0; i < 5; i++) {
                        int lamps = 0;
                        for (int k = 0; k <= half * 5 + i; k++) lamps |= 1 << (first + k) % 10;
                        due("turns " + first + " by " + (half * 5 + i), x.lamps(i), lamps);
                    }
                }
            }
        });
        Due.edge("PLAYED by a TEXT: its CLAUSES but laws", () -> {
            LitByLosers x = new LitByLosers();
            Due.text(x, "");
            Due.text(x, "loses 1;fills 2;");
            due("none", x.played(0), -1);
            due("laws alone", x.played(1), -1);
            due("no one rules by it", x.about(3), -1);
            due("no step", x.about(4), 0);
        });
        Due.edge("its number among all CLAUSES (from 0)", () -> {
            String[] ahead = {"", "loses 1;", "loses 1;fills 1;", "fills 1;person 9 slip 0;loses 1;", "snuff 1;"};
            int[] want = {0, 1, 2, 3, 0};
            for (int i = 0; i < ahead.length; i++) {
                LitByLosers x = new LitByLosers();
                Due.text(x, ahead[i] + "snuff 1;person 9 slip 0;");
                due("played " + ahead[i], x.played(0), want[i]);
                due("what was done stays " + ahead[i], x.about(0), ahead[i].contains("person") ? 1 : 0);
            }
            LitByLosers y = new LitByLosers();
            y.person(0, 0);
            Due.text(y, "pour 1 by 0;".repeat(23) + "snuff 9;");
            due("the last of 24", y.played(0), 23);
            due("what was done stays", y.of(0, 0), 23);
            LitByLosers z = new LitByLosers();
            z.person(0, 0);
            Due.text(z, "pour 1 by 0;".repeat(24));
            due("all 24", z.played(0), -1);
            due("all of it", z.of(0, 0), 24);
        });
    }

    static void cannot(String words, String text, int clause, int people, int disputes) {
        Due.edge(words, () -> {
            LitByLosers x = new LitByLosers();
            x.person(95, 10);
            x.person(5, 0);
            x.dispute(1);
            Due.text(x, text);
            due("played " + text, x.played(0), clause);
            due("people behind " + text, x.about(0), people);
            due("disputes behind " + text, x.about(1), disputes);
        });
    }

    static void scriptsThatCannot() {
        cannot("a fifth PERSON can't be", "person 0 slip 0;person 0 slip 0;person 0 slip 0;turns 0 by 0;", 2, 4, 1);
        cannot("a ninth DISPUTE can't be", "turns 9 by 9;".repeat(8) + "person 0 slip 0;", 7, 2, 8);
        cannot("no DISPUTE such", "argue 0 by 0 to 1;argue 1 by 0 to 1;turns 0 by 0;", 1, 2, 1);
        cannot("no PERSON such", "argue 0 by 0 to 1;argue 0 by 2 to 1;turns 0 by 0;", 1, 2, 1);
        cannot("no other PERSON such", "argue 0 by 0 to 1;argue 0 by 0 to 2;turns 0 by 0;", 1, 2, 1);
        cannot("against itself", "argue 0 by 0 to 1;argue 0 by 1 to 1;turns 0 by 0;", 1, 2, 1);
        cannot("a PERSON told by the script", "person 9 slip 9;argue 0 by 2 to 1;pour 1 by 2;turns 0 by 0;", -1, 3, 2);
        cannot("a DISPUTE told by the script", "turns 0 by 0;argue 1 by 0 to 1;snuff 0;", -1, 2, 2);
        cannot("OIL of 99 at most", "pour 4 by 0;pour 1 by 0;turns 0 by 0;", 1, 2, 1);
        cannot("no PERSON to pour for", "pour 4 by 2;turns 0 by 0;", 0, 2, 1);
        cannot("a dark LAMP can't be SNUFFED", "argue 0 by 0 to 1;snuff 0;snuff 0;turns 0 by 0;", 2, 2, 1);
        Due.edge("(of so many NIGHTS those that can pass do)", () -> {
            for (int left : new int[] {0, 1, 59, 60, 61}) {
                LitByLosers x = new LitByLosers();
                for (int nights = 9999 - left; nights > 0; nights -= 60) x.night(Math.min(nights, 60));
                Due.text(x, "fills 1;night 60;person 9 slip 9;");
                due("played with " + left, x.played(0), left >= 60 ? -1 : 1);
                due("night with " + left, x.is(0), left >= 60 ? 9999 - left + 60 : 9999);
                due("behind it with " + left, x.about(0), left >= 60 ? 1 : 0);
                x.undo();
                due("each a step " + left, x.is(0), left == 0 ? 9998 : left >= 60 ? 9999 - left + 59 : 9998);
            }
        });
        Due.edge("the most that can be told by a script", () -> {
            LitByLosers x = new LitByLosers();
            Due.text(x, "person 99 slip 10;person 0 slip 0;".repeat(2) + "turns 9 by 9;" + "turns 0 by 0;".repeat(7)
                + "argue 7 by 3 to 0;pour 99 by 3;snuff 0;pour 99 by 1;night 60;");
            due("played", x.played(0), -1);
            due("oil", x.is(3) <= 396 ? 1 : 0, 1);
            due("night", x.is(0), 60);
            for (int i = 0; i < 60; i++) x.undo();
            for (int i = 0; i < 4; i++) due("slip " + i, x.of(i, 1), i % 2 == 0 ? 10 : 0);
            due("all ten", x.lamps(0), 1023);
            due("the first", x.lamps(7), 1);
            LitByLosers y = new LitByLosers();
            Due.text(y, "person 99 slip 10;person 0 slip 0;person 72 slip 9;person 0 slip 0;pour 99 by 1;pour 73 by 3;");
            due("played", y.played(0), -1);
            int[] oil = {99, 99, 72, 73};
            for (int i = 0; i < 4; i++) due("oil " + i, y.of(i, 0), oil[i]);
        });
        Due.edge("as by hand", () -> {
            LitByLosers x = new LitByLosers();
            LitByLosers y = new LitByLosers();
            Due.text(x, "person 50 slip 4;person 40 slip 6;turns 8 by 3;turns 2 by 0;argue 0 by 0 to 1;argue 1 by 1 to 0;pour 9 by 1;night 3;"
                + "argue 0 by 1 to 0;night 31;");
            due("played", x.played(0), -1);
            y.person(50, 4);
            y.person(40, 6);
            y.dispute(0b1100000011);
            y.dispute(4);
            y.argue(0, 0, 1);
            y.argue(1, 1, 0);
            y.pour(1, 9);
            y.night(3);
            y.argue(0, 1, 0);
            y.night(31);
            for (int steps = 0; steps < 31; steps++) {
                for (int i = 0; i < 5; i++) due("is " + i + " behind " + steps, x.is(i), y.is(i));
                due("undo", x.undo(), y.undo());
            }
        });
    }
}
