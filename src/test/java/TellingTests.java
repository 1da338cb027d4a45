/** Promises 1 to 8: a new object, people, disputes, the tape, texts and their faults, who rules. */
public final class TellingTests {
    public static void main(String[] args) {
        newObject();
        people();
        disputes();
        tape();
        texts();
        faultsAnswered();
        faultsStand();
        faultsNumber();
        faultsOpen();
        faultsTwiceNameClauses();
        rules();
        Due.finish("TellingTests");
    }

    static void due(String call, long got, long want) {
        Due.due(call, got, want);
    }

    static void newObject() {
        LitByLosers x = new LitByLosers();
        int[] about = {0, 0, 0, -1, 0, 0, 0, 0, 0};
        for (int i = 0; i < about.length; i++) due("1 about " + i, x.about(i), about[i]);
        int[] is = {0, 367, 0, 0, 0};
        for (int i = 0; i < is.length; i++) due("1 is " + i, x.is(i), is[i]);
        due("1 book", x.book(-1, 0), 0);
        due("1 undo", x.undo(), -1);
        due("1 whodid 0", x.whodid(0, false), 1);
        x.person(1, 1);
        x.dispute(5);
        x.night(3);
        due("1 back", x.back(), 0);
        for (int i = 0; i < about.length; i++) due("1 about " + i + " behind back", x.about(i), about[i]);
        for (int i = 0; i < is.length; i++) due("1 is " + i + " behind back", x.is(i), is[i]);
    }

    static void people() {
        LitByLosers x = new LitByLosers();
        int[][] bad = {{-1, 0}, {100, 0}, {0, -1}, {0, 11}, {Integer.MIN_VALUE, 0}, {0, Integer.MAX_VALUE}};
        for (int[] b : bad) due("2 bad person", x.person(b[0], b[1]), -1);
        due("2 person", x.person(0, 10), 0);
        due("2 person", x.person(99, 0), 1);
        due("2 about", x.about(0), 2);
        due("2 oil", x.of(1, 0), 99);
        due("2 slip", x.of(0, 1), 10);
        due("2 wrong", x.of(0, 2), 0);
        due("2 person", x.person(5, 5), 2);
        due("2 person", x.person(5, 5), 3);
        due("2 fifth", x.person(5, 5), -1);
        due("2 about", x.about(0), 4);
        due("2 oil of all", x.is(3), 109);
    }

    static void disputes() {
        LitByLosers x = new LitByLosers();
        due("3 bad", x.dispute(-1), -1);
        due("3 bad", x.dispute(1024), -1);
        due("3 bad", x.dispute(Integer.MIN_VALUE), -1);
        due("3 none of them", x.dispute(0), 0);
        due("3 all", x.dispute(1023), 1);
        for (int i = 2; i < 8; i++) due("3 dispute", x.dispute(i), i);
        due("3 ninth", x.dispute(1), -1);
        due("3 about", x.about(1), 8);
        due("3 lamps", x.lamps(7), 7);
    }

    static void tape() {
        LitByLosers x = new LitByLosers();
        due("5 end of none", x.end(0), 0);
        due("5 too many", x.end(1), -1);
        due("4 feed", x.feed(0x6E696768, 0x7420323B, 0x20202020, 0x20202020, 0x2020A020), 20);
        due("8 about", x.about(8), 20);
        due("5 below 0", x.end(-1), -1);
        due("5 too many", x.end(21), -1);
        due("5 about", x.about(8), 20);
        due("5 all", x.end(20), 20);
        due("4 text", x.text(), -1);
        due("4 the highest first", x.fault(1), 18);
        x.feed(0x6E696768, 0x7420323B, 0x20202020, 0x20202020, 0x2020A020);
        due("5 end", x.end(8), 8);
        due("5 about", x.about(8), 8);
        due("5 cut off", x.end(9), -1);
        due("4 behind", x.feed(0x6E696768, 0x7420333B, 0, 0, 0), 28);
        due("5 end", x.end(16), 16);
        due("4 text of both", x.text(), 0);
        due("4 played", x.played(0), -1);
        due("4 nights", x.is(0), 5);
        for (int i = 1; i <= 15; i++) due("4 feed", x.feed(0, 0, 0, 0, 0), 20 * i);
        due("4 above 300", x.feed(0, 0, 0, 0, 0), -1);
        due("4 about", x.about(8), 300);
        due("5 end", x.end(281), 281);
        due("4 above 300", x.feed(0, 0, 0, 0, 0), -1);
        due("4 none come", x.about(8), 281);
        due("5 end", x.end(280), 280);
        due("4 just 300", x.feed(0, 0, 0, 0, 0), 300);
        due("5 last byte", x.end(300), 300);
    }

    static void texts() {
        LitByLosers x = new LitByLosers();
        due("6 empty", x.text(), 0);
        due("6 whole", Due.text(x, "loses 1;"), 1);
        due("6 tape is empty", x.about(8), 0);
        due("6 fault", Due.text(x, "loses 1"), -1);
        due("6 tape is empty behind a fault", x.about(8), 0);
        due("6 no text more", x.about(2), 2);
        due("6 blanks", Due.text(x, " \n \n"), 2);
        String whole = "loses0000;\nfills if(1)<=(2)and not 1#2 or 1>=2 then-lamp 3 else around who of 9 end;\n";
        due("6 blanks where they need not be", Due.text(x, whole), 3);
        due("6 there are four", Due.text(x, "loses !"), -1);
        due("6 tape stays", x.about(8), 7);
        due("6 not read", x.fault(0), 0);
        due("6 texts", x.about(2), 4);
        x.back();
        due("6 room again", x.text(), -1);
        due("6 read", x.fault(0), 1);
        due("6 300 bytes", Due.text(new LitByLosers(), "loses 1" + " ".repeat(292) + ";"), 0);
    }

    static void faultsAnswered() {
        LitByLosers x = new LitByLosers();
        due("7 ahead of any", x.fault(0), -1);
        due("7 ahead of any", x.fault(1), -1);
        Due.text(x, "night 1;");
        due("7 without", x.fault(0), 0);
        due("7 without", x.fault(1), -1);
        Due.text(x, "night 0;");
        due("7 fault", x.fault(0), 2);
        due("7 place", x.fault(1), 6);
        due("7 others", x.fault(-1), -1);
        due("7 others", x.fault(2), -1);
        x.back();
        due("7 stays behind back", x.fault(0), 2);
        due("7 stays behind back", x.fault(1), 6);
    }

    static void fault(String text, int number, int place) {
        LitByLosers x = new LitByLosers();
        due("7 text " + text, Due.text(x, text), number == 0 ? 0 : -1);
        due("7 fault of " + text, x.fault(0), number);
        due("7 place of " + text, x.fault(1), place);
    }

    static void whole(String text) {
        fault(text, 0, -1);
    }

    /** The fault is where the second part begins. */
    static void at(int number, String ahead, String there) {
        fault(ahead + there, number, ahead.length());
    }

    static void faultsStand() {
        String[][] parts = {{"", "!"}, {"", "1;"}, {"", ";"}, {"", "Loses 1;"}, {"", "losesx 1;"}, {"", "losesA 1;"}, {"", "losesZ 1;"}, {"", "zloses 1;"}, {"loses", "[1;"}, {"loses", "@1;"},
            {"loses", "`1;"}, {"loses", "{1;"}, {"loses 1", ":"}, {"loses 1*", ";"}, {"loses 1/", ");"},
            {"loses if 1=1 or ", "then 1 else 1 end;"}, {"loses if 1=1 and 1", "or 1=1 then 1 else 1 end;"}, {"", "slip 1;"},
            {"", "then"}, {"", "\tnight 1;"}, {"", "\u00e9"}, {"", "\0"}, {"loses", ""}, {"loses ", ""}, {"loses 1", ""},
            {"loses 1  \n", ""}, {"loses 1 ", "2;"}, {"loses ", ";"}, {"loses 1;", ";"}, {"loses (1", ";"},
            {"loses 1", ");"}, {"loses 1", "\t;"}, {"loses 1 ", "=1;"}, {"loses ", "not 1=1;"}, {"loses 1+", ";"},
            {"loses ", "+1;"}, {"loses 1*", "*1;"}, {"loses if (1", "=1) then 1 else 1 end;"},
            {"loses if 1=1 then 1 ", "end;"}, {"loses if 1=1 then 1 else 1", ";"}, {"loses if 1<", "not 1=1 then 1 else 1 end;"},
            {"loses if 1 ", "then 1 else 1 end;"}, {"loses if 1=1", "=1 then 1 else 1 end;"}, {"loses if 1 < ", "= 2"},
            {"loses if 1=1 and ", "then 1 else 1 end;"}, {"loses if 1=1 ", "not 1=1 then 1 else 1 end;"},
            {"loses around 1 ", "2;"}, {"loses around 1 of ", ";"}, {"loses lamp ", "*;"}, {"loses 1 ", "who;"},
            {"loses 1 ", "10000;"}, {"loses ", "by;"}, {"loses ", "loses 1;"}, {"loses oil ", "slip;"}, {"loses ", "OIL;"},
            {"loses 1 ", "% 2;"}, {"loses 1 ", "== 1;"}, {"fills 1", ",2;"}, {"person ", "oil slip 1;"},
            {"person 1 ", "by 1;"}, {"person 1 slip ", ";"}, {"person 1 slip 1", ""}, {"turns 1", ";"}, {"turns 1 by ", "-1;"},
            {"argue 1 by 1", ";"}, {"argue 1 by 1 ", "by 2;"}, {"pour 1 ", "to 1;"}, {"pour ", "who by 1;"},
            {"snuff ", "lamp 1;"}, {"night ", "(1);"}, {"night 1 ", "2;"}, {"night 1;night", ""}, {"night 1;", "oil"}};
        for (String[] p : parts) at(1, p[0], p[1]);
        at(1, "", ";".repeat(300));
        at(1, "loses 1", ")".repeat(293));
        at(1, "loses 1" + "+1".repeat(146) + "+", "");
        whole("loses1;fills2;");
        whole("loses- - 1+-2*-(3);");
        whole("night\n1\n;");
        whole("fills if not not who>=1 and oil<=2 or night#lit then number else size end;");
        whole("loses other-against/wrong*slip;");
        whole("fills lamp lamp around around 1 of 2 of - 3;");
    }

    static void faultsNumber() {
        String[][] parts = {{"loses ", "10000;"}, {"loses ", "99999999999999999999999;"}, {"fills 1+(", "10000"},
            {"person ", "100 slip 0;"}, {"person 0 slip ", "11;"}, {"turns ", "10 by 0;"}, {"turns 0 by ", "10;"},
            {"argue ", "8 by 0 to 1;"}, {"argue 0 by ", "4 to 1;"}, {"argue 0 by 0 to ", "4;"}, {"pour ", "0 by 0;"},
            {"pour ", "100 by 0;"}, {"pour 1 by ", "4;"}, {"snuff ", "10;"}, {"night ", "0;"}, {"night ", "61;"},
            {"night ", "4294967297;"}, {"fills if 1=", "10000 then"}};
        for (String[] p : parts) at(2, p[0], p[1]);
        whole("loses 9999;fills 000000000000000000007;");
        whole("person 99 slip 10;person 0 slip 0;turns 9 by 9;turns 0 by 0;argue 7 by 3 to 3;pour 99 by 3;pour 1 by 0;");
        whole("snuff 9;snuff 0;night 60;night 1;");
    }

    static void faultsOpen() {
        whole("loses ((((((((1))))))));");
        at(3, "loses ((((((((", "(1");
        whole("loses --------1;");
        at(3, "loses --------", "-1;");
        whole("fills lamp lamp lamp lamp lamp lamp lamp lamp 1;");
        at(3, "fills lamp lamp lamp lamp lamp lamp lamp lamp ", "lamp 1;");
        whole("fills if not not not not not not not 1=1 then 1 else 2 end;");
        at(3, "fills if not not not not not not not ", "not 1=1 then 1 else 2 end;");
        at(3, "fills if not not not not not not not ", "(1)=1 then 1 else 2 end;");
        String ifs = "if 1=1 then if 1=1 then if 1=1 then if 1=1 then if 1=1 then if 1=1 then if 1=1 then if 1=1 then ";
        at(3, "loses " + ifs, "if 1=1 then");
        at(3, "loses if 1=1 then 1 else (((((((", "(1");
        at(3, "loses if (((((((", "(1");
        at(1, "loses ((((((((1 ", "(1");
        at(3, "loses around 1 of (((((((", "(1");
        whole("loses around 1 of 1+((((((((1))))))));");
        at(3, "loses around (((((((", "(1");
        whole("loses -1-((((((((1))))))))-lamp 1*((((((((1))))))));");
        whole("loses ((1)+(1)+(1)+(1)+(1)+(1)+(1)+(1)+(1)+(1));");
        whole("loses if not 1=1 and not 1=1 or not 1=1 and not 1=1 and not 1=1 and not 1=1 or not 1=1 or not 1=1 or "
            + "not ------1=1 then ((((((1)))))) else 1 end-------- 1;");
        at(3, "loses (-lamp around if not (-", "lamp 1");
    }

    static void faultsTwiceNameClauses() {
        at(4, "fills 1;", "fills 2;");
        at(4, "loses 1;fills 1;", "loses!");
        at(4, "loses 1;night 1;", "loses 2;");
        at(5, "loses ", "who;");
        at(5, "loses 1+lamp ", "who;");
        at(5, "fills ", "other;");
        at(5, "fills if 1=1 then 1 else ", "against end;");
        whole("loses against+other;fills who;");
        String most = "snuff 0;".repeat(22) + "loses 1;fills 1;";
        whole(most);
        at(6, most, "snuff 0;");
        at(6, most, "night");
        at(6, most + "\n", "person 1000");
        at(4, most, "fills 1;");
        at(1, most, "oil");
        at(6, "snuff 0;".repeat(24), "fills 1;");
        at(1, "snuff 0;".repeat(24), ";");
    }

    static void rules() {
        LitByLosers x = new LitByLosers();
        Due.due("8 none told", x.by(0), false);
        Due.due("8 none", x.by(-1), true);
        Due.text(x, "loses 4;");
        Due.text(x, "fills 2;");
        x.person(50, 3);
        x.person(50, 0);
        x.dispute(7);
        due("8 none rules", x.about(3), -1);
        due("8 none rules", x.loses(0, 0, 1), 3);
        Due.due("8 by", x.by(0), true);
        due("8 rules", x.about(3), 0);
        due("8 rules", x.loses(0, 0, 1), 4);
        due("8 rules", x.fills(0, 0), 3);
        Due.due("8 others", x.by(2), false);
        Due.due("8 others", x.by(-2), false);
        due("8 still", x.about(3), 0);
        Due.due("8 by", x.by(1), true);
        due("8 rules", x.about(3), 1);
        due("8 rules", x.loses(0, 0, 1), 3);
        due("8 rules", x.fills(0, 0), 2);
        Due.due("8 none", x.by(-1), true);
        due("8 none rules", x.fills(0, 0), 3);
    }
}
