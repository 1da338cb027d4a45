/** Promises 43 to 54: the game, who did it, stretches, whose law, blaze and dim, and the people. */
public final class GuessTests {
    public static void main(String[] args) {
        games();
        whodid();
        stretches();
        said();
        whose();
        blaze();
        people();
        solvent();
        fool();
        ledger();
        Due.finish("GuessTests");
    }

    static void due(String call, long got, long want) {
        Due.due(call, got, want);
    }

    static LitByLosers about(int... disputes) {
        LitByLosers x = new LitByLosers();
        for (int lamps : disputes) x.dispute(lamps);
        return x;
    }

    static void game(LitByLosers x, int lit, int first) {
        due("43 game", x.game(false), lit);
        due("43 first", x.game(true), first);
    }

    static void games() {
        game(about(), 0, -1);
        game(about(7), 3, 0);
        game(about(0), 0, 0);
        game(about(1, 3), 2, 1);
        game(about(3, 1, 48), 3, 2);
        game(about(3, 12, 15), 2, 0);
        game(about(1, 2, 4, 8), 2, 0);
        game(about(7, 14, 9, 512), 3, 2);
        game(about(1, 2, 4, 8, 16, 32, 64, 128), 4, 0);
        game(about(1, 2, 4, 8, 16, 32, 64), 4, 0);
        LitByLosers x = about(31, 1, 1);
        game(x, 4, 0);
        x.person(9, 0);
        x.person(9, 0);
        x.argue(0, 0, 1);
        game(x, 1, 0);
        due("43 changes nothing", x.is(2), 31);
        game(about(1, 1, 0, 0, 0), 1, 2);
        LitByLosers y = about(1);
        y.person(9, 0);
        y.person(9, 0);
        y.argue(0, 0, 1);
        game(y, 0, 0);
    }

    static void whodid() {
        LitByLosers x = about(3, 6, 5, 0, 3);
        x.person(50, 0);
        x.person(50, 0);
        x.argue(1, 0, 1);
        x.image();
        int[] none = {1, 1, 1, 3, 2, 0, 0, 0, 0};
        for (int n = 0; n <= 8; n++) due("44 nothing is otherwise " + n, x.whodid(n, false), none[n]);
        due("44 the lowest", x.whodid(2, true), 17);
        due("44 the lowest", x.whodid(1, true), 8);
        x.argue(0, 0, 1);
        int[] ways = {0, 2, 3, 1, 0, 0, 0, 0, 0};
        int[] lowest = {-1, 1, 6, 14, -1, -1, -1, -1, -1};
        due("44 lamps", x.is(2), 5);
        due("44 one", x.whodid(1, false), 2);
        due("44 one", x.whodid(1, true), 1);
        due("44 none", x.whodid(0, false), 0);
        due("44 none", x.whodid(0, true), -1);
        due("44 two", x.whodid(2, false), 3);
        due("44 two", x.whodid(2, true), lowest[2]);
        due("44 three", x.whodid(3, false), ways[3]);
        due("44 three", x.whodid(3, true), lowest[3]);
        due("44 six", x.whodid(6, false), 0);
        due("44 eight", x.whodid(8, true), -1);
        for (int b : new int[] {-1, 9, Integer.MIN_VALUE, Integer.MAX_VALUE}) {
            due("44 others", x.whodid(b, false), -1);
            due("44 others", x.whodid(b, true), -1);
        }
        due("44 all eight", about(1, 1, 1, 1, 1, 1, 1, 1).whodid(8, true), 255);
    }

    static void stretch(int lamps, int howMany, int lit, int dark) {
        LitByLosers x = new LitByLosers();
        x.person(9, 0);
        x.person(9, 0);
        Due.light(x, lamps);
        due("45 stretches of " + lamps, x.stretches(), howMany);
        due("46 lit of " + lamps, x.stretch(true), lit);
        due("46 dark of " + lamps, x.stretch(false), dark);
    }

    static void stretches() {
        stretch(0, 0, 0, 10);
        stretch(1023, 1, 10, 0);
        stretch(1 << 9 | 1, 1, 2, 8);
        stretch(341, 5, 1, 1);
        stretch(682, 5, 1, 1);
        stretch(0b1110000011, 1, 5, 5);
        stretch(0b0110110001, 3, 2, 3);
        stretch(0b1001110111, 2, 4, 2);
        stretch(0b0111111111, 1, 9, 1);
        stretch(0b1111101111, 1, 9, 1);
        stretch(0b0000110000, 1, 2, 8);
        stretch(0b1000000000, 1, 1, 9);
        stretch(0b0000000001, 1, 1, 9);
    }

    static void said() {
        LitByLosers x = about(1, 2);
        due("47 nobody", x.said(0, 0, 0), -2);
        x.person(9, 0);
        int[][] bad = {{2, 0, 0}, {-2, 0, 0}, {0, 1, 0}, {0, -1, 0}, {0, 0, 10}, {0, 0, -1}, {Integer.MAX_VALUE, 0, 0},
            {0, Integer.MIN_VALUE, 0}, {0, 0, Integer.MAX_VALUE}};
        for (int[] b : bad) due("47 others", x.said(b[0], b[1], b[2]), -2);
        due("47 about", x.about(7), 0);
        for (int i = 1; i <= 8; i++) due("47 said", x.said(i % 2, 0, i % 2 == 0 ? 0 : 9), i);
        due("47 there are eight", x.said(0, 0, 0), -2);
        due("47 about", x.about(7), 8);
        due("47 none any more", x.said(-1, 0, 0), 0);
        due("47 none any more", x.said(-1, 99, 99), 0);
        due("47 about", x.about(7), 0);
    }

    static void whose() {
        LitByLosers x = about(7, 15);
        due("48 no texts", x.whose(), 0);
        x.person(30, 4);
        x.person(20, 0);
        Due.text(x, "fills 3;");
        Due.text(x, "loses 9;");
        Due.text(x, "fills number+3+who;");
        Due.text(x, "fills oil/10;");
        due("48 nothing said", x.whose(), 15);
        x.said(0, 0, 3);
        due("48 so by all", x.whose(), 15);
        x.said(1, 0, 4);
        due("48 not by 3", x.whose(), 6);
        x.said(0, 1, 4);
        due("48 by one", x.whose(), 4);
        x.said(0, 1, 3);
        due("48 by none", x.whose(), 0);
        x.said(-1, 0, 0);
        x.by(0);
        x.said(0, 1, 2);
        due("48 whoever rules", x.whose(), 8);
        x.pour(1, 15);
        due("48 as now", x.whose(), 0);
    }

    static void blaze() {
        LitByLosers x = about();
        due("49 none", x.blaze(true), -1);
        due("49 none", x.blaze(false), -1);
        for (int lamps : new int[] {3, 8, 48, 64}) x.dispute(lamps);
        due("49 blaze", x.blaze(true), 0);
        due("49 dim", x.blaze(false), 1);
        x.person(9, 0);
        x.person(9, 0);
        x.argue(0, 0, 1);
        due("49 from now on", x.blaze(true), 2);
        due("49 from now on", x.blaze(false), 0);
        x.dispute(0);
        x.dispute(96);
        due("49 of like ones the lowest", x.blaze(true), 2);
        x.argue(2, 0, 1);
        due("49 of like ones the lowest", x.blaze(false), 0);
        LitByLosers y = about(1, 3, 4);
        y.person(9, 0);
        y.person(9, 0);
        y.argue(1, 0, 1);
        due("49 what is lit is turned dark", y.blaze(false), 1);
        due("49 what is dark is lit", y.blaze(true), 2);
    }

    static void people() {
        LitByLosers x = about();
        due("50 none", x.surest(), -1);
        due("51 none", x.poorest(), -1);
        x.person(40, 7);
        due("50 the one", x.surest(), 0);
        due("51 the one", x.poorest(), 0);
        x.person(30, 6);
        x.person(30, 9);
        x.person(50, 6);
        due("50 of like ones the lowest", x.surest(), 1);
        due("51 of like ones the lowest", x.poorest(), 1);
        x.pour(2, -30);
        due("51 without oil", x.poorest(), 2);
        x.pour(0, -40);
        due("51 of like ones the lowest", x.poorest(), 0);
        LitByLosers y = about();
        y.person(1, 10);
        y.person(0, 0);
        due("50 slip 0", y.surest(), 1);
        due("51 oil 0", y.poorest(), 1);
    }

    static void solvent() {
        LitByLosers x = about();
        due("52 nobody", x.solvent(), 0);
        x.person(2, 0);
        x.person(0, 0);
        x.person(9, 0);
        x.person(3, 0);
        due("52 no disputes", x.solvent(), 15);
        x.dispute(0);
        due("52 for nothing", x.solvent(), 15);
        x.dispute(7);
        due("52 no less than any", x.solvent(), 12);
        x.dispute(1);
        due("52 no less than any", x.solvent(), 12);
        x.dispute(1023);
        due("52 nine for all ten", x.solvent(), 4);
        Due.text(x, "fills who*number;");
        x.by(0);
        due("52 by the text", x.solvent(), 1 | 4);
        x.pour(2, -4);
        due("52 as now", x.solvent(), 1);
        LitByLosers y = about(7, 1);
        y.person(2, 0);
        due("52 no less than the first", y.solvent(), 0);
    }

    static void fool() {
        LitByLosers x = Due.ruled("loses 10;");
        due("53 nobody", x.fool(), -1);
        for (int i = 0; i < 4; i++) x.person(50, 5);
        x.dispute(1);
        due("53 none yet", x.fool(), -1);
        x.argue(0, 2, 0);
        due("53 once", x.fool(), 2);
        x.argue(0, 1, 0);
        due("53 of like ones the lowest", x.fool(), 1);
        x.argue(0, 3, 0);
        x.argue(0, 3, 0);
        due("53 most often", x.fool(), 3);
        x.undo();
        due("53 as ahead", x.fool(), 1);
    }

    static void ledger() {
        LitByLosers x = Due.ruled("loses 10;");
        due("54 none", x.ledger(-1), 0);
        due("54 others", x.ledger(0), -2);
        for (int i = 0; i < 3; i++) x.person(50, 5);
        x.dispute(1);
        due("54 none", x.ledger(2), 0);
        for (int i = 0; i < 5; i++) x.argue(0, 1, 0);
        for (int i = 0; i < 3; i++) x.argue(0, 2, 0);
        int[] ledger = {8, 0, 5, 3};
        for (int p = -1; p < 3; p++) due("54 ledger " + p, x.ledger(p), ledger[p + 1]);
        for (int b : new int[] {3, -2, Integer.MIN_VALUE, Integer.MAX_VALUE}) due("54 others", x.ledger(b), -2);
        for (int i = 0; i < 20; i++) x.argue(0, 0, 1);
        int[] latest = {25, 20, 2, 3};
        for (int p = -1; p < 3; p++) due("54 latest " + p, x.ledger(p), latest[p + 1]);
        due("54 wrong all the same", x.of(1, 2), 5);
    }
}
