/** Promises 9 to 15: arguing, pouring, snuffing, nights, scripts, years, and taking back. */
public final class DoingTests {
    public static void main(String[] args) {
        argued();
        arguedByLaw();
        wrongAtMost();
        poured();
        snuffed();
        nights();
        nightsOfFew();
        nightsAtTheEnd();
        played();
        playedToWhatCannotBe();
        years();
        taken();
        takenWithPeopleToldSince();
        Due.finish("DoingTests");
    }

    static void due(String call, long got, long want) {
        Due.due(call, got, want);
    }

    /** X is 367, then 10847, 25386, 13070, 7872, 11082, 16036, 16623, 8374, 12126, 11935, 17564. */
    static void argued() {
        LitByLosers x = new LitByLosers();
        x.person(20, 3);
        x.person(6, 1);
        x.dispute(7);
        x.dispute(0);
        int[][] bad = {{-1, 0, 1}, {2, 0, 1}, {0, 0, 0}, {0, 1, 1}, {0, -1, 1}, {0, 2, 1}, {0, 0, 2}, {0, 0, -1}};
        for (int[] b : bad) due("9 others", x.argue(b[0], b[1], b[2]), -1);
        due("9 nothing is done", x.is(1), 367);
        due("9 no step", x.about(4), 0);
        int[][] rows = {{0, 1, 1}, {1, 0, 0}, {1, 0, 0}, {0, 1, 0}, {1, 0, 0}, {0, 1, 0}, {1, 0, 0}, {1, 0, 0}, {1, 0, 0}};
        int[] x0 = {10847, 25386, 13070, 7872, 11082, 16036, 16623, 8374, 12126};
        int[] oil = {20, 17, 14, 11, 8, 5, 2, 0, 0};
        for (int i = 0; i < rows.length; i++) {
            due("9 who loses", x.argue(0, rows[i][0], rows[i][1]), rows[i][2]);
            due("9 X", x.is(1), x0[i]);
            due("9 oil", x.of(0, 0), oil[i]);
            due("9 lamps", x.is(2), i % 2 == 0 ? 7 : 0);
        }
        due("9 oil", x.of(1, 0), 3);
        due("9 wrong", x.of(0, 2), 8);
        due("9 wrong", x.of(1, 2), 1);
        due("9 steps", x.about(4), 9);
        due("9 book", x.book(-1, 0), 9);
        due("9 no night", x.is(0), 0);
        due("9 burnt last night", x.is(4), 0);
        due("9 of no lamps", x.argue(1, 0, 1), 1);
        due("9 lamps", x.is(2), 7);
    }

    static void arguedByLaw() {
        LitByLosers x = Due.ruled("loses 7;fills 5-wrong-lit;");
        x.person(20, 10);
        x.person(30, 0);
        x.dispute(7);
        due("9 not below", x.argue(0, 0, 1), 1);
        due("9 fills as ahead", x.of(1, 0), 25);
        LitByLosers y = Due.ruled("loses 8;fills 9;");
        y.person(4, 0);
        y.person(30, 10);
        y.dispute(0);
        due("9 below", y.argue(0, 0, 1), 0);
        due("9 what it has", y.of(0, 0), 0);
        LitByLosers z = Due.ruled("loses against;");
        z.person(99, 0);
        z.person(8, 0);
        z.dispute(3);
        due("9 law of the first one", z.argue(0, 0, 1), 0);
    }

    static LitByLosers many(int nights) {
        LitByLosers x = new LitByLosers();
        x.person(50, 10);
        x.person(50, 0);
        x.dispute(0);
        for (int i = nights; i > 0; i -= 60) x.night(Math.min(i, 60));
        due("12 night", x.is(0), nights);
        return x;
    }

    static void wrongAtMost() {
        LitByLosers x = many(9999);
        due("9 wrong", x.of(0, 2), 9999);
        due("9 who loses", x.argue(0, 1, 0), 0);
        due("9 at most", x.of(0, 2), 9999);
        due("9 night in the book", x.book(24, 0), 9999);
        due("9 other one", x.of(1, 2), 0);
    }

    static void poured() {
        LitByLosers x = new LitByLosers();
        x.person(5, 0);
        int[][] bad = {{0, 0}, {0, 100}, {0, -100}, {0, 95}, {0, -6}, {1, 1}, {-1, 1}, {0, Integer.MIN_VALUE},
            {0, Integer.MAX_VALUE}, {4, 1}};
        for (int[] b : bad) Due.due("10 others", x.pour(b[0], b[1]), false);
        due("10 no step", x.about(4), 0);
        Due.due("10 to none", x.pour(0, -5), true);
        due("10 oil", x.of(0, 0), 0);
        Due.due("10 below 0", x.pour(0, -1), false);
        Due.due("10 to the most", x.pour(0, 99), true);
        due("10 oil", x.of(0, 0), 99);
        Due.due("10 above", x.pour(0, 1), false);
        Due.due("10 the most less", x.pour(0, -99), true);
        due("10 oil", x.of(0, 0), 0);
        due("10 steps", x.about(4), 3);
        due("10 X stays", x.is(1), 367);
    }

    static void snuffed() {
        LitByLosers x = new LitByLosers();
        x.person(5, 0);
        x.person(5, 0);
        Due.light(x, 1 << 9 | 3);
        int[] bad = {2, 8, 10, -1, 32, 33, 41, Integer.MIN_VALUE, Integer.MAX_VALUE};
        for (int b : bad) Due.due("11 others", x.snuff(b), false);
        due("11 no step", x.about(4), 1);
        Due.due("11 snuff", x.snuff(9), true);
        due("11 lamps", x.is(2), 3);
        Due.due("11 dark", x.snuff(9), false);
        Due.due("11 snuff", x.snuff(0), true);
        due("11 lamps", x.is(2), 2);
        due("11 steps", x.about(4), 3);
    }

    static LitByLosers four() {
        LitByLosers x = new LitByLosers();
        x.person(40, 0);
        x.person(40, 0);
        x.person(50, 2);
        x.person(50, 1);
        x.dispute(1);
        x.dispute(6);
        x.dispute(8);
        return x;
    }

    static void nights() {
        LitByLosers x = four();
        int[] bad = {0, -1, 61, Integer.MIN_VALUE, Integer.MAX_VALUE};
        for (int b : bad) due("12 others", x.night(b), -1);
        due("12 nothing is done", x.is(1), 367);
        due("12 burnt", x.night(1), 2);
        int[] book = {0, 1, 3, 6};
        for (int i = 0; i < 4; i++) due("12 book", x.book(0, i), book[i]);
        due("12 a lamp is dark", x.is(2), 2);
        due("12 X", x.is(1), 11082);
        due("12 oil", x.of(3, 0), 48);
        due("12 wrong", x.of(3, 2), 1);
        due("12 night", x.is(0), 1);
        due("12 burnt last night", x.is(4), 2);
        due("12 a step", x.about(4), 1);
        LitByLosers y = four();
        due("12 burnt in two", y.night(2), 3);
        due("12 lamps", y.is(2), 3);
        due("12 X", y.is(1), 11935);
        due("12 burnt last night", y.is(4), 1);
        due("12 steps", y.about(4), 2);
        due("12 book's night", y.book(1, 0), 1);
        LitByLosers z = four();
        due("12 argued ahead", z.argue(0, 0, 1), 1);
        due("12 the other one is behind the first", z.night(1), 1);
        due("12 who", z.book(1, 2), 3);
        due("12 which", z.book(1, 1), 2);
        due("12 lamps", z.is(2), 9);
        due("12 X", z.is(1), 16036);
        z.pour(0, 5);
        z.argue(1, 0, 1);
        due("12 burnt last night stays", z.is(4), 1);
        due("12 sixty", z.night(60) >= 0 ? 1 : 0, 1);
        due("12 steps at most", z.about(4), 30);
    }

    static void nightsOfFew() {
        LitByLosers x = new LitByLosers();
        x.person(5, 5);
        x.dispute(1023);
        due("12 one person", x.night(1), 0);
        due("12 just the lamp is drawn", x.is(1), 10847);
        due("12 dark", x.is(2), 0);
        x.person(9, 0);
        due("12 book", x.book(-1, 0), 0);
        due("12 lamps", x.argue(0, 0, 1), 1);
        due("12 oil", x.of(1, 0), 0);
        LitByLosers y = new LitByLosers();
        y.person(5, 5);
        y.person(5, 5);
        due("12 no disputes", y.night(2), 0);
        due("12 just the lamps are drawn", y.is(1), 25386);
        due("12 night", y.is(0), 2);
        LitByLosers z = new LitByLosers();
        z.person(5, 10);
        z.person(5, 0);
        z.dispute(1 << 2 | 1);
        z.argue(0, 0, 1);
        z.back();
        due("12 nobody", z.night(60), 0);
        due("12 nights", z.is(0), 60);
    }

    static void nightsAtTheEnd() {
        LitByLosers x = many(9960);
        due("12 beyond", x.night(40), -1);
        due("12 nothing is done", x.is(0), 9960);
        due("12 to the last", x.night(39), 0);
        due("12 night", x.is(0), 9999);
        due("12 none can pass", x.night(1), -1);
        int x0 = x.is(1);
        due("22 foretold behind none", x.foretold(60, 0), 0);
        due("14 no night in years", x.years(2, 1), 9999);
        due("14 X", x.is(1), 13315);
        due("15 undo", x.undo(), 29);
        due("15 X", x.is(1), x0);
        LitByLosers y = many(9998);
        due("13 text", Due.text(y, "loses 1;night 60;snuff 0;"), 0);
        due("13 one that can pass does", y.played(0), 1);
        due("13 night", y.is(0), 9999);
        due("15 one step", y.undo(), 29);
        due("15 night", y.is(0), 9998);
        due("13 text", Due.text(y, "night 1;night 1;"), 1);
        due("13 none can pass", y.played(1), 1);
        due("13 night", y.is(0), 9999);
    }

    static void played() {
        LitByLosers x = new LitByLosers();
        due("13 others", x.played(0), -2);
        due("13 others", x.played(-1), -2);
        due("13 text", Due.text(x, "loses 5;person 30 slip 5;fills 1;turns 9 by 1;person 20 slip 0;argue 0 by 0 to 1;"
            + "pour 7 by 1;snuff 9;night 2;snuff 9;night 1;"), 0);
        due("13 others", x.played(1), -2);
        due("13 played", x.played(0), 9);
        due("13 dispute", x.lamps(0), 513);
        due("13 people", x.about(0), 2);
        due("13 oil", x.of(0, 0), 26);
        due("13 oil", x.of(1, 0), 25);
        due("13 lamps", x.is(2), 1);
        due("13 X", x.is(1), 17564);
        due("13 night", x.is(0), 2);
        due("13 steps", x.about(4), 5);
        due("13 burnt last night", x.is(4), 2);
        due("13 text", Due.text(x, "loses 5;fills 2;"), 1);
        due("13 laws alone", x.played(1), -1);
        due("13 text", Due.text(x, ""), 2);
        due("13 nothing", x.played(2), -1);
        LitByLosers z = Due.ruled("turns 3 by 2;turns 9 by 0;turns 8 by 2;turns 1 by 9;");
        z.played(0);
        int[] lamps = {56, 512, 769, 1023};
        for (int i = 0; i < 4; i++) due("13 turns", z.lamps(i), lamps[i]);
        LitByLosers y = Due.ruled("fills 4;person 9 slip 0;person 9 slip 0;turns 0 by 9;");
        due("13 all", y.played(0), -1);
        due("13 all lamps", y.lamps(0), 1023);
        due("13 text", Due.text(y, "fills 1;argue 0 by 0 to 1;"), 1);
        due("13 all", y.played(1), -1);
        due("13 the text rules, not the one played", y.of(1, 0), 5);
    }

    static void cannot(String text, int clause) {
        LitByLosers x = new LitByLosers();
        x.person(95, 0);
        x.person(5, 0);
        x.dispute(1);
        due("13 text " + text, Due.text(x, text), 0);
        due("13 played " + text, x.played(0), clause);
    }

    static void playedToWhatCannotBe() {
        cannot("person 1 slip 1;person 1 slip 1;person 1 slip 1;", 2);
        cannot("turns 0 by 0;turns 0 by 0;turns 0 by 0;turns 0 by 0;turns 0 by 0;turns 0 by 0;turns 0 by 0;turns 0 by 0;", 7);
        cannot("argue 0 by 0 to 1;argue 0 by 0 to 0;", 1);
        cannot("argue 1 by 0 to 1;", 0);
        cannot("fills 1;argue 0 by 2 to 1;", 1);
        cannot("argue 0 by 0 to 2;", 0);
        cannot("pour 4 by 0;pour 1 by 0;", 1);
        cannot("pour 1 by 2;", 0);
        cannot("snuff 0;", 0);
        cannot("argue 0 by 0 to 1;snuff 0;snuff 0;", 2);
        cannot("night 60;night 60;pour 1 by 1;", -1);
    }

    static void years() {
        LitByLosers x = new LitByLosers();
        int[][] bad = {{-1, 1}, {10000, 1}, {0, 0}, {0, -1}, {0, 41}, {Integer.MAX_VALUE, 1}, {1, Integer.MIN_VALUE}};
        for (int[] b : bad) due("14 others", x.years(b[0], b[1]), -1);
        due("14 nothing is done", x.about(4), 0);
        due("14 nobody", x.years(0, 1), 0);
        due("14 X", x.is(1), 10847);
        due("14 a step", x.about(4), 1);
        due("14 a night", x.years(2, 1), 1);
        due("14 X", x.is(1), 4692);
        x.person(97, 0);
        x.person(97, 10);
        due("14 poured", x.years(1, 1), 1);
        due("14 X", x.is(1), 12081);
        due("14 oil", x.of(1, 0), 99);
        due("14 too much", x.years(1, 1), 1);
        due("14 oil", x.of(1, 0), 99);
        x.pour(1, -2);
        due("14 poured 1 and 65 mod 5", x.years(13, 1), 1);
        due("14 oil", x.of(1, 0), 98);
        x.pour(1, 1);
        due("14 no disputes", x.years(3, 1), 1);
        due("14 X", x.is(1), 14549);
        for (int lamps : new int[] {1, 2, 7, 8}) x.dispute(lamps);
        due("14 argued", x.years(3, 1), 1);
        due("14 X", x.is(1), 25214);
        due("14 who lost", x.of(1, 2), 1);
        due("14 oil", x.of(1, 0), 96);
        due("14 lamps", x.is(2), 7);
        due("14 book", x.book(0, 1), 2);
        due("14 burnt last night", x.is(4), 0);
        due("14 snuffed", x.years(72, 2), 1);
        due("14 X", x.is(1), 21258);
        due("14 lamps", x.is(2), 5);
        due("14 the other one", x.of(0, 2), 0);
        due("15 a step", x.undo(), 9);
        due("15 lamps", x.is(2), 7);
        due("15 X", x.is(1), 25214);
        int night = x.is(0);
        due("14 most", x.years(9999, 40) > night ? 1 : 0, 1);
        due("15 one step", x.undo(), 9);
        due("15 night", x.is(0), night);
    }

    static void taken() {
        LitByLosers x = four();
        due("15 none", x.undo(), -1);
        for (int i = 0; i < 26; i++) x.argue(i % 3, 0, 1);
        int[] is = new int[5];
        for (int i = 0; i < 5; i++) is[i] = x.is(i);
        int eldest = x.book(0, 1);
        x.night(1);
        due("15 the eldest line is gone", x.book(0, 1), (eldest + 1) % 3);
        due("15 undo", x.undo(), 26);
        for (int i = 0; i < 5; i++) due("15 is " + i, x.is(i), is[i]);
        due("15 the eldest line is back", x.book(0, 1), eldest);
        due("15 book", x.book(-1, 0), 25);
        x.back();
        due("15 behind back", x.undo(), -1);
        LitByLosers y = new LitByLosers();
        y.person(0, 0);
        for (int i = 0; i < 31; i++) y.pour(0, 1);
        due("15 steps", y.about(4), 30);
        for (int i = 29; i >= 0; i--) {
            due("15 undo", y.undo(), i);
            due("15 oil", y.of(0, 0), i + 1);
        }
        due("15 none", y.undo(), -1);
        due("15 oil", y.of(0, 0), 1);
        LitByLosers z = four();
        z.argue(1, 2, 3);
        z.snuff(1);
        due("15 lamps", z.is(2), 4);
        due("15 undo", z.undo(), 1);
        due("15 lamps", z.is(2), 6);
        due("15 undo", z.undo(), 0);
        due("15 lamps", z.is(2), 0);
        for (int i = 0; i < 4; i++) due("15 wrong", z.of(i, 2), 0);
        due("15 oil", z.is(3), 180);
        due("15 X", z.is(1), 367);
        due("15 book", z.book(-1, 0), 0);
    }

    static void takenWithPeopleToldSince() {
        LitByLosers x = new LitByLosers();
        x.person(50, 10);
        x.dispute(7);
        x.pour(0, 1);
        x.person(60, 0);
        x.pour(1, 9);
        x.argue(0, 0, 1);
        x.argue(0, 0, 1);
        due("15 undo", x.undo(), 3);
        due("15 undo", x.undo(), 2);
        due("15 undo", x.undo(), 1);
        due("15 as told", x.of(1, 0), 60);
        due("15 undo", x.undo(), 0);
        due("15 oil", x.of(0, 0), 50);
        due("15 told since", x.of(1, 0), 60);
        due("15 people", x.about(0), 2);
        due("15 wrong", x.of(0, 2), 0);
        due("15 disputes stay", x.about(1), 1);
    }
}
