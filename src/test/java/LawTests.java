/** II, with promises 19 and 20: what loses and fills come to. */
public final class LawTests {
    public static void main(String[] args) {
        without();
        sums();
        limits();
        names();
        asks();
        deepest();
        lamps();
        Due.finish("LawTests");
    }

    static void due(String call, long got, long want) {
        Due.due(call, got, want);
    }

    static void without() {
        LitByLosers x = new LitByLosers();
        due("19 nobody", x.loses(0, 0, 1), -100);
        due("20 nobody", x.fills(0, 0), -100);
        x.dispute(0);
        x.dispute(511);
        x.dispute(1023);
        x.person(1, 10);
        x.person(2, 0);
        due("19 slip", x.loses(0, 0, 1), 10);
        due("19 slip", x.loses(2, 1, 0), 0);
        due("20 no lamps", x.fills(0, 0), 0);
        due("20 nine lamps", x.fills(1, 0), 9);
        due("20 ten lamps", x.fills(2, 1), 9);
        int[][] bad = {{-1, 0, 1}, {3, 0, 1}, {0, -1, 1}, {0, 2, 1}, {0, 0, -1}, {0, 0, 2}, {0, 0, 0}, {0, 1, 1}};
        for (int[] b : bad) due("19 others", x.loses(b[0], b[1], b[2]), -100);
        due("20 others", x.fills(-1, 0), -100);
        due("20 others", x.fills(3, 0), -100);
        due("20 others", x.fills(0, -1), -100);
        due("20 others", x.fills(0, 2), -100);
    }

    static LitByLosers two(String text) {
        LitByLosers x = Due.ruled(text);
        x.person(40, 3);
        x.person(7, 8);
        x.dispute(7);
        x.dispute(1 << 9 | 1);
        return x;
    }

    static void fills(String sum, int want) {
        due("fills " + sum, two("fills " + sum + ";").fills(1, 1), want);
    }

    static void loses(String sum, int want) {
        due("loses " + sum, two("loses " + sum + ";").loses(1, 0, 1), want);
    }

    static void sums() {
        fills("9-4-3", 2);
        fills("2+3*2", 8);
        fills("(2+1)*2", 6);
        fills("100/9/2", 5);
        fills("8/4*3", 6);
        fills("7/2", 3);
        fills("-7/2+8", 5);
        fills("7/-2+8", 5);
        fills("5/0+4", 4);
        fills("5/(3-3)+4", 4);
        fills("0-(1-9)", 8);
        fills("- -4", 4);
        fills("-2*3+9", 3);
        fills("2*-3+9", 3);
        loses("9-lamp 3+1", 10);
        loses("around 2 of 7+1", 6);
    }

    static void limits() {
        fills("10", 9);
        fills("9", 9);
        fills("0-1", 0);
        loses("11", 10);
        loses("10", 10);
        loses("-1", 0);
        String most = "(1000*1000)";
        fills("1000*1000-999*1001", 1);
        fills("9999*9999*9999*9999/999-1000", 1);
        fills("9999*9999-999*1001", 1);
        fills("1000*1001-999*1001", 1);
        fills(most + "+5-999*1001", 1);
        fills(most + "+" + most + "-999*1001", 1);
        fills("999*1001+1-999*1001", 1);
        fills("-1000*1001+999*1001+3", 2);
        fills("0-" + most + "-8+" + most + "+3", 3);
        fills("-(1000*1001)-7+" + most + "+4", 4);
        fills(most + "/9999/20", 5);
        fills("1000*-1001/-9999/20", 5);
        fills("5-" + most + "*1000/" + most, 4);
        fills("-9999*9999/9999+108", 8);
    }

    static void names() {
        loses("number", 1);
        loses("size", 2);
        loses("oil-35", 5);
        loses("slip", 3);
        loses("other", 8);
        loses("against", 7);
        loses("lit+night+wrong", 0);
        fills("number", 1);
        fills("size", 2);
        fills("oil", 7);
        fills("slip", 8);
        fills("who+4", 5);
        LitByLosers x = two("loses night*4+lit;fills wrong*3+lit-night;");
        due("lit", x.loses(0, 0, 1), 0);
        due("who loses, odds 0", x.argue(0, 0, 1), 1);
        due("lit", x.loses(0, 0, 1), 3);
        due("wrong of who pays", x.fills(0, 1), 6);
        due("wrong of who pays", x.fills(0, 0), 3);
        x.years(2, 1);
        due("night", x.loses(0, 0, 1), 4 + Integer.bitCount(x.is(2)));
        LitByLosers y = two("loses wrong;fills oil/10;");
        y.argue(0, 0, 1);
        due("wrong of the first one", y.loses(0, 0, 1), y.of(0, 2));
        due("wrong of the first one", y.loses(0, 1, 0), y.of(1, 2));
        due("oil of who pays", y.fills(0, 0), 4);
    }

    static void ask(String either, boolean want) {
        fills("if " + either + " then 7 else 2 end", want ? 7 : 2);
    }

    static void asks() {
        ask("1<2", true);
        ask("2<2", false);
        ask("2<=2", true);
        ask("3<=2", false);
        ask("3>2", true);
        ask("2>2", false);
        ask("2>=2", true);
        ask("1>=2", false);
        ask("2=2", true);
        ask("2=3", false);
        ask("2#3", true);
        ask("2#2", false);
        ask("not 1=1", false);
        ask("not not 1=1", true);
        ask("1=2 and 1=2 or 1=1", true);
        ask("1=1 or 1=2 and 1=2", true);
        ask("(1)-1=0 and 1=1 and 1=2", false);
        ask("1=2 or 1=2 or 1=1", true);
        ask("not 1=2 and 1=1", true);
        ask("not 1=2 and 1=2", false);
        for (String left : new String[] {"1<2", "2<=2", "2>1", "2>=2", "2=2", "1#2", "not 2=1"}) {
            for (String right : new String[] {"1<2", "2<=2", "2>1", "2>=2", "2=2", "1#2", "not 2=1"}) {
                ask(left + " and " + right, true);
                ask("not not " + left + " or " + right, true);
            }
        }
        ask("1+1=2*1", true);
        fills("1+if 1=1 then 2 else 5 end*3", 7);
        fills("1+if 1=2 then 2 else if 1=1 then 4 else 6 end end", 5);
        fills("if 1=1 then if 1=2 then 1 else 3 end else 8 end", 3);
    }

    /** The most that waits for its other side at once. */
    static void deepest() {
        StringBuilder s = new StringBuilder("loses ");
        for (int i = 0; i < 8; i++) s.append("if 1=2or 1=1and 1=0+1*");
        s.append("1");
        for (int i = 0; i < 8; i++) s.append(" then1else0end");
        LitByLosers x = two(s + ";");
        due("deepest", x.loses(0, 0, 1), 1);
        for (int i = 0; i < 20; i++) due("deepest with a fault", Due.text(x, s + "!"), -1);
        due("deepest once more", Due.text(x, s + ";"), 1);
        x.by(1);
        due("deepest once more", x.loses(0, 0, 1), 1);
        due("long", Due.text(x, "loses 75" + "-1".repeat(70) + "*1".repeat(70) + ";"), 2);
        x.by(2);
        due("long", x.loses(0, 0, 1), 5);
    }

    static void lamps() {
        LitByLosers x = two("loses lamp 9+lamp 0*2+lamp 1*4;fills lamp lamp 9+lamp 10*3+lamp(-1)*3+lamp 4*3+lamp 9999*3;");
        Due.light(x, 1 << 9 | 1 << 1);
        due("lamps lit", x.loses(0, 0, 1), 5);
        due("lamp of 1", x.fills(0, 0), 1);
        fills("around 0 of 9", 1);
        fills("around 9 of 0", 1);
        fills("around 0 of 5", 5);
        fills("around 2 of 8", 4);
        fills("around 7 of 3", 4);
        fills("around 6 of 6", 0);
        fills("around 1 of 10+3", 3);
        fills("around 10 of 1+3", 3);
        fills("around-1 of 1+3", 3);
        fills("around 1 of-1+3", 3);
    }
}
