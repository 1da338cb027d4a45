/** The boundaries that the Terms name, and those of YEARS and of THE IMAGE (V): one test each. */
public final class TermEdgeTests {
    public static void main(String[] args) {
        lampsAndPeople();
        wrongAndDisputes();
        nightAndBook();
        draws();
        arguing();
        pouringAndSnuffing();
        nights();
        nightsDrawn();
        steps();
        stepsTold();
        years();
        yearsThatCannot();
        image();
        Due.finish("TermEdgeTests");
    }

    static void due(String call, long got, long want) {
        Due.due(call, got, want);
    }

    /** Two people, the first of whom always loses (slip 10 against 0, the law of slips). */
    static LitByLosers always(int oil, int... disputes) {
        LitByLosers x = new LitByLosers();
        x.person(oil, 10);
        x.person(oil, 0);
        for (int lamps : disputes) x.dispute(lamps);
        return x;
    }

    static void pass(LitByLosers x, int nights) {
        for (int left = nights; left > 0; left -= 60) x.night(Math.min(left, 60));
    }

    static void lampsAndPeople() {
        Due.edge("LAMPS 0 .. 9 around a square", () -> {
            LitByLosers x = always(9, 1023);
            x.argue(0, 0, 1);
            Due.due("snuff -1", x.snuff(-1), false);
            Due.due("snuff 10", x.snuff(10), false);
            Due.due("snuff 0", x.snuff(0), true);
            Due.due("snuff 9", x.snuff(9), true);
            due("lit", x.is(2), 0b0111111110);
        });
        Due.edge("9 is beside 0", () -> {
            LitByLosers x = always(9, 1 << 9 | 1);
            x.argue(0, 0, 1);
            due("stretches", x.stretches(), 1);
            due("lit", x.stretch(true), 2);
            due("dark", x.stretch(false), 8);
        });
        Due.edge("at first dark", () -> due("lit", new LitByLosers().is(2), 0));
        Due.edge("PEOPLE 0 .. 3 (told one by one)", () -> {
            LitByLosers x = new LitByLosers();
            for (int i = 0; i < 4; i++) {
                due("not told yet", x.of(i, 0), -2);
                due("told", x.person(10 + i, i), i);
                due("oil", x.of(i, 0), 10 + i);
            }
            due("a fifth", x.person(1, 1), -1);
            due("a fifth", x.of(4, 0), -2);
        });
        Due.edge("OIL 0 .. 99", () -> {
            LitByLosers x = new LitByLosers();
            x.person(0, 0);
            x.person(99, 0);
            Due.due("less than 0", x.pour(0, -1), false);
            Due.due("more than 99", x.pour(1, 1), false);
            Due.due("99 more", x.pour(0, 99), true);
            Due.due("99 less", x.pour(1, -99), true);
            due("most", x.of(0, 0), 99);
            due("least", x.of(1, 0), 0);
        });
        Due.edge("SLIP 0 .. 10", () -> {
            LitByLosers x = always(99, 0);
            for (int i = 0; i < 40; i++) {
                due("slip 10 always loses", x.argue(0, 0, 1), 0);
                due("slip 0 never does", x.argue(0, 1, 0), 0);
            }
        });
    }

    static void wrongAndDisputes() {
        Due.edge("how often WRONG (at first 0; 9999 at most)", () -> {
            LitByLosers x = always(50, 0);
            due("at first", x.of(0, 2), 0);
            pass(x, 9990);
            due("as many as nights", x.of(0, 2), 9990);
            for (int i = 0; i < 8; i++) x.argue(0, 0, 1);
            due("one below", x.of(0, 2), 9998);
            x.argue(0, 0, 1);
            due("the most", x.of(0, 2), 9999);
            x.argue(0, 1, 0);
            due("by hand", x.of(0, 2), 9999);
            x.night(1);
            due("in a night", x.of(0, 2), 9999);
            Due.text(x, "argue 0 by 0 to 1;");
            x.played(0);
            due("by a script", x.of(0, 2), 9999);
            x.years(3, 1);
            due("in years", x.of(0, 2), 9999);
            due("foretold", x.foretold(2, 0), 0);
            for (int i = 0; i < 4; i++) x.undo();
            due("ahead of these", x.of(0, 2), 9999);
            x.undo();
            due("taken back", x.of(0, 2), 9998);
        });
        Due.edge("DISPUTES 0 .. 7 (told one by one)", () -> {
            LitByLosers x = new LitByLosers();
            for (int i = 0; i < 8; i++) {
                due("not told yet", x.lamps(i), -1);
                due("told", x.dispute(100 + i), i);
                due("lamps", x.lamps(i), 100 + i);
            }
            due("a ninth", x.dispute(1), -1);
            due("a ninth", x.lamps(8), -1);
        });
        Due.edge("LAMPS (bits, maybe none)", () -> {
            LitByLosers x = always(9, 0, 1023);
            due("none", x.lamps(0), 0);
            due("all", x.lamps(1), 1023);
            x.argue(1, 0, 1);
            x.argue(0, 0, 1);
            due("none turned", x.is(2), 1023);
        });
    }

    static void nightAndBook() {
        Due.edge("Oil burnt last NIGHT (at first 0)", () -> {
            LitByLosers x = always(9, 3);
            due("at first", x.is(4), 0);
            x.argue(0, 0, 1);
            due("no night yet", x.is(4), 0);
        });
        Due.edge("NIGHT 0 .. 9999 (at first 0)", () -> {
            LitByLosers x = new LitByLosers();
            due("at first", x.is(0), 0);
            pass(x, 9998);
            due("the last", x.night(1), 0);
            due("night", x.is(0), 9999);
            due("beyond", x.night(1), -1);
            due("night", x.is(0), 9999);
        });
        Due.edge("X: at first 367", () -> due("X", new LitByLosers().is(1), 367));
        Due.edge("BOOK (the latest 25)", () -> {
            LitByLosers x = always(50, 1, 2, 4, 8, 16);
            for (int i = 0; i < 24; i++) x.argue(i % 5, 0, 1);
            due("24", x.book(-1, 0), 24);
            due("no 25th yet", x.book(24, 0), -2);
            x.argue(4, 0, 1);
            due("25", x.book(-1, 0), 25);
            due("the eldest", x.book(0, 1), 0);
            due("the latest", x.book(24, 1), 4);
            x.argue(3, 0, 1);
            due("26 are 25", x.book(-1, 0), 25);
            due("the eldest is gone", x.book(0, 1), 1);
            due("the latest", x.book(24, 1), 3);
            due("no 26th", x.book(25, 1), -2);
            due("who lost", x.ledger(0), 25);
            due("all", x.ledger(-1), 25);
            due("wrong for all that", x.of(0, 2), 26);
        });
        Due.edge("BOOK: NIGHT, DISPUTE, who lost, LAMPS lit then", () -> {
            LitByLosers x = new LitByLosers();
            for (int i = 0; i < 4; i++) x.person(99, i == 3 ? 10 : 0);
            pass(x, 9999);
            for (int i = 0; i < 7; i++) x.dispute(0);
            x.dispute(1023);
            x.argue(7, 3, 0);
            int[] most = {9999, 7, 3, 1023};
            for (int what = 0; what < 4; what++) due("most " + what, x.book(0, what), most[what]);
            x.argue(7, 0, 3);
            due("turned back", x.book(1, 3), 0);
            LitByLosers y = always(99, 0);
            y.argue(0, 0, 1);
            for (int what = 0; what < 4; what++) due("least " + what, y.book(0, what), 0);
        });
    }

    static void draws() {
        Due.edge("X becoming (X * 617 + 491) mod 30869 behind it", () -> {
            LitByLosers x = new LitByLosers();
            int due = 367;
            for (int i = 0; i < 240; i++) {
                x.night(1);
                due = Due.next(due);
                due("X behind " + (i + 1) + " draws", x.is(1), due);
            }
        });
        Due.edge("a draw by 10 (X mod 10): below loses the first one loses, else the other one", () -> {
            for (int odds = 0; odds <= 10; odds++) {
                LitByLosers x = Due.ruled("loses " + odds + ";");
                x.person(99, 5);
                x.person(99, 5);
                x.dispute(0);
                int at = 367;
                for (int i = 0; i < 60; i++) {
                    due("odds " + odds + " of " + at, x.argue(0, 1, 0), at % 10 < odds ? 1 : 0);
                    at = Due.next(at);
                }
            }
        });
    }

    static void arguing() {
        Due.edge("of a PERSON against another one", () -> {
            LitByLosers x = always(9, 7);
            due("itself", x.argue(0, 0, 0), -1);
            due("itself", x.argue(0, 1, 1), -1);
            due("no draw", x.is(1), 367);
            due("no step", x.about(4), 0);
        });
        Due.edge("its OIL is less by fills .. (by what it has, if that is less)", () -> {
            int[][] rows = {{4, 1}, {3, 0}, {2, 0}, {1, 0}, {0, 0}};
            for (int[] row : rows) {
                LitByLosers x = always(row[0], 7);
                x.argue(0, 0, 1);
                due("3 of " + row[0], x.of(0, 0), row[1]);
                due("wrong all the same", x.of(0, 2), 1);
                due("the other one pays nothing", x.of(1, 0), row[0]);
            }
            LitByLosers x = always(2, 7);
            due("what it has is burnt in a night", x.night(1), 2);
            due("burnt last night", x.is(4), 2);
            due("nothing is left to burn", x.night(1), 0);
            due("burnt last night", x.is(4), 0);
        });
        Due.edge("fills (of that DISPUTE and it, as ahead", () -> {
            LitByLosers x = Due.ruled("loses 10;fills 2+wrong*5+lit*3+lamp 0+(99-oil)*2;");
            x.person(99, 0);
            x.person(99, 0);
            x.dispute(3);
            x.argue(0, 0, 1);
            due("ahead of being wrong, of the lamps, of the oil", x.of(0, 0), 97);
        });
        Due.edge("all LAMPS of the DISPUTE are turned over (lit ones dark, dark ones lit)", () -> {
            LitByLosers x = always(9, 0b1000000011, 0b1100000001, 1023, 0);
            int[] argued = {0, 1, 2, 3, 2, 1, 0};
            int lit = 0;
            for (int d : argued) {
                x.argue(d, 0, 1);
                lit ^= x.lamps(d);
                due("lit", x.is(2), lit);
            }
            due("all dark again", x.is(2), 0);
        });
    }

    static void pouringAndSnuffing() {
        Due.edge("POURED: OIL of a PERSON is more (below 0: less)", () -> {
            LitByLosers x = always(40, 7);
            x.pour(1, 59);
            due("more", x.of(1, 0), 99);
            x.pour(1, -99);
            due("less", x.of(1, 0), 0);
            due("the other one's stays", x.of(0, 0), 40);
        });
        Due.edge("SNUFFED: a LAMP that is lit is dark", () -> {
            LitByLosers x = always(9, 1023);
            x.argue(0, 0, 1);
            int lit = 1023;
            for (int lamp = 0; lamp < 10; lamp++) {
                Due.due("lit", x.snuff(lamp), true);
                lit -= 1 << lamp;
                due("dark", x.is(2), lit);
                Due.due("dark by now", x.snuff(lamp), false);
            }
            due("steps", x.about(4), 11);
        });
    }

    static void nights() {
        Due.edge("are there DISPUTES and two PEOPLE or more", () -> {
            for (int people = 0; people <= 4; people++) {
                for (int disputes = 0; disputes <= 8; disputes++) {
                    LitByLosers x = new LitByLosers();
                    for (int i = 0; i < people; i++) x.person(50, 5);
                    for (int i = 0; i < disputes; i++) x.dispute(1 << i);
                    x.night(1);
                    boolean argued = people > 1 && disputes > 0;
                    due("lines of " + people + ", " + disputes, x.book(-1, 0), argued ? 1 : 0);
                    due("X of " + people + ", " + disputes, x.is(1), Due.next(367, argued ? 5 : 1));
                    due("burnt of " + people + ", " + disputes, x.is(4), argued ? 1 : 0);
                }
            }
        });
        Due.edge("Then a draw by 10: is that LAMP lit, it is dark", () -> {
            boolean[] drawn = new boolean[10];
            LitByLosers x = always(9);
            x.dispute(1023);
            x.argue(0, 0, 1);
            x.image();
            for (int seed = 0; seed < 60; seed++) {
                x.back();
                x.years(seed, 1);
                int lit = x.is(2);
                int at = x.is(1);
                // the night argues first: all ten lamps are turned over ahead of the last draw
                x.night(1);
                int lamp = Due.next(at, 4) % 10;
                drawn[lamp] = true;
                due("lamp " + lamp, x.is(2), (lit ^ 1023) & ~(1 << lamp));
            }
            for (int lamp = 0; lamp < 10; lamp++) Due.due("lamp " + lamp + " was drawn", drawn[lamp], true);
        });
        Due.edge("Oil burnt last NIGHT is what was burnt in it", () -> {
            LitByLosers x = always(4, 7);
            due("three", x.night(1), 3);
            due("last night", x.is(4), 3);
            due("one", x.night(1), 1);
            due("last night", x.is(4), 1);
            x.pour(0, 90);
            due("poured since", x.is(4), 1);
            due("nine in three", x.night(3), 9);
            due("the last one alone", x.is(4), 3);
        });
        Due.edge("NIGHT is one more (at 9999 none can pass)", () -> {
            LitByLosers x = always(5, 1);
            pass(x, 9939);
            due("just to the last", x.night(60) >= 0 ? 1 : 0, 1);
            due("night", x.is(0), 9999);
            int at = x.is(1);
            for (int n : new int[] {1, 2, 60}) due("none can pass", x.night(n), -1);
            due("X", x.is(1), at);
            due("argued then", x.argue(0, 0, 1), 0);
            Due.due("poured then", x.pour(1, 9), true);
            due("steps", x.about(4), 30);
            for (int i = 0; i < 3; i++) x.undo();
            due("taken back", x.is(0), 9998);
            due("it can pass again", x.night(1) >= 0 ? 1 : 0, 1);
            due("night", x.is(0), 9999);
        });
    }

    static void nightsDrawn() {
        Due.edge("the other one: of those but the first by number", () -> {
            for (int people = 2; people <= 4; people++) {
                boolean[] met = new boolean[16];
                LitByLosers x = Due.ruled("loses 0;");
                for (int i = 0; i < people; i++) x.person(99, 0);
                for (int i = 0; i < 8; i++) x.dispute(0);
                for (int i = 0; i < 100; i++) {
                    int at = x.is(1);
                    x.night(1);
                    int dispute = at % 8;
                    int first = Due.next(at) % people;
                    int other = Due.next(at, 2) % (people - 1);
                    if (other >= first) other++;
                    met[first * 4 + other] = true;
                    int line = Math.min(i, 24);
                    due("which", x.book(line, 1), dispute);
                    due("the other one loses", x.book(line, 2), other);
                    due("X", x.is(1), Due.next(at, 5));
                }
                for (int a = 0; a < people; a++) {
                    for (int b = 0; b < people; b++) Due.due(a + " met " + b + " of " + people, met[a * 4 + b], a != b);
                }
            }
        });
    }

    static void steps() {
        Due.edge("the latest 30 can be taken back, the latest first", () -> {
            for (int done : new int[] {0, 1, 29, 30, 31, 65, 95}) {
                LitByLosers x = new LitByLosers();
                x.person(0, 0);
                for (int i = 0; i < done; i++) x.pour(0, 1);
                int can = Math.min(done, 30);
                due("steps of " + done, x.about(4), can);
                for (int i = 1; i <= can; i++) {
                    due("undo", x.undo(), can - i);
                    due("oil", x.of(0, 0), done - i);
                }
                due("none", x.undo(), -1);
                due("oil", x.of(0, 0), done - can);
                Due.due("a step again", x.pour(0, 1), true);
                due("one", x.undo(), 0);
            }
        });
        Due.edge("the latest 30 behind many", () -> {
            for (int done = 100; done <= 400; done += 20) {
                LitByLosers x = new LitByLosers();
                x.person(0, 0);
                for (int i = 1; i <= done; i++) x.pour(0, i % 70 == 0 ? -69 : 1);
                for (int i = 29; i >= 0; i--) {
                    due("undo", x.undo(), i);
                    due("oil", x.of(0, 0), (done - 30 + i) % 70);
                }
                due("none", x.undo(), -1);
            }
        });
        Due.edge("ARGUED, POURED, SNUFFED, a NIGHT (each), YEARS", () -> {
            LitByLosers x = always(50, 1);
            x.argue(0, 0, 1);
            due("argued", x.about(4), 1);
            x.pour(0, -1);
            due("poured", x.about(4), 2);
            x.snuff(0);
            due("snuffed", x.about(4), 3);
            x.night(1);
            due("a night", x.about(4), 4);
            x.night(4);
            due("four nights", x.about(4), 8);
            x.years(1, 40);
            due("years", x.about(4), 9);
            Due.text(x, "argue 0 by 0 to 1;pour 1 by 0;night 3;person 1 slip 1;turns 1 by 1;");
            x.played(0);
            due("by a script", x.about(4), 14);
            x.person(1, 1);
            x.dispute(1);
            x.by(0);
            x.street(1);
            x.verdict(0, true);
            x.said(0, 0, 0);
            x.image();
            due("no steps", x.about(4), 14);
            x.night(60);
            due("at most", x.about(4), 30);
        });
        Due.edge("(LAMPS, OIL, WRONG, oil burnt, NIGHT, X, BOOK are as ahead of it", () -> {
            LitByLosers x = always(99, 1, 6, 1023);
            for (int i = 0; i < 24; i++) x.argue(i % 2, 0, 1);
            x.night(1);
            int[][] ahead = new int[6][];
            for (int i = 0; i < 6; i++) {
                ahead[i] = seen(x);
                if (i == 0) x.argue(2, 0, 1);
                if (i == 1) x.pour(1, -7);
                if (i == 2) x.snuff(Integer.numberOfTrailingZeros(x.is(2)));
                if (i == 3) x.night(1);
                if (i == 4) x.years(9, 40);
                if (i == 5) x.night(1);
            }
            for (int i = 5; i >= 0; i--) {
                x.undo();
                int[] now = seen(x);
                for (int k = 0; k < now.length; k++) due("ahead of step " + i + ", row " + k, now[k], ahead[i][k]);
            }
        });
    }

    static int[] seen(LitByLosers x) {
        int[] row = {x.is(0), x.is(1), x.is(2), x.is(3), x.is(4), x.of(0, 0), x.of(0, 2), x.of(1, 0), x.of(1, 2), x.book(-1, 0),
            x.book(0, 0), x.book(0, 1), x.book(0, 2), x.book(0, 3), x.book(24, 0), x.book(24, 1), x.book(24, 2), x.book(24, 3)};
        return row;
    }

    static void stepsTold() {
        Due.edge("PEOPLE told since are as told", () -> {
            LitByLosers x = always(60, 7);
            x.argue(0, 0, 1);
            due("told since", x.person(20, 10), 2);
            x.argue(0, 2, 1);
            x.pour(2, 9);
            due("told since", x.person(7, 4), 3);
            x.pour(3, -7);
            x.years(0, 40);
            for (int i = 4; i >= 0; i--) due("undo", x.undo(), i);
            int[] oil = {60, 60, 20, 7};
            int[] slip = {10, 0, 10, 4};
            for (int p = 0; p < 4; p++) {
                due("oil", x.of(p, 0), oil[p]);
                due("slip", x.of(p, 1), slip[p]);
                due("wrong", x.of(p, 2), 0);
            }
            due("people stay", x.about(0), 4);
            due("oil of all", x.is(3), 147);
        });
        Due.edge("what else was told stays behind undo", () -> {
            LitByLosers x = always(60, 7);
            x.pour(0, 1);
            x.dispute(8);
            Due.text(x, "fills 4;");
            x.by(0);
            x.street(1);
            x.verdict(0, true);
            x.said(0, 0, 4);
            x.feed(0, 0, 0, 0, 0);
            due("undo", x.undo(), 0);
            int[] about = {2, 2, 1, 0, 0, 1, 1, 1, 20};
            for (int i = 0; i < 9; i++) due("about " + i, x.about(i), about[i]);
            due("the text rules yet", x.fills(0, 0), 4);
        });
    }

    static void years() {
        Due.edge("X is SEED (0 .. 9999) * 2 + 367", () -> {
            for (int seed : new int[] {0, 1, 5250, 5251, 9998, 9999}) {
                LitByLosers x = new LitByLosers();
                due("years", x.years(seed, 1) >= 0 ? 1 : 0, 1);
                int from = seed * 2 + 367;
                due("X of " + seed, x.is(1), Due.next(from, from % 6 >= 4 ? 2 : 1));
            }
            LitByLosers x = new LitByLosers();
            due("below", x.years(-1, 1), -1);
            due("above", x.years(10000, 1), -1);
            due("X", x.is(1), 367);
        });
        Due.edge("n times (1 .. 40)", () -> {
            for (int n : new int[] {1, 2, 39, 40}) {
                LitByLosers x = new LitByLosers();
                int at = 8 * 2 + 367;
                int nights = 0;
                for (int i = 0; i < n; i++) {
                    boolean night = at % 6 >= 4;
                    if (night) nights++;
                    at = Due.next(at, night ? 2 : 1);
                }
                due("nights of " + n, x.years(8, n), nights);
                due("X of " + n, x.is(1), at);
                due("one step", x.about(4), 1);
            }
            LitByLosers x = new LitByLosers();
            for (int n : new int[] {0, -1, 41, 100}) due("others", x.years(8, n), -1);
            due("no step", x.about(4), 0);
        });
        Due.edge("x mod 6: 0, 1 DISPUTE x / 6 mod how many is ARGUED", () -> {
            boolean[] met = new boolean[6];
            // SEED * 2 + 367 is odd: what is drawn first is 1, 3 or 5 by 6; the draw behind a 3 may be any
            for (int seed = 1; seed < 400; seed += 3) {
                int first = seed * 2 + 367;
                if (first % 6 != 3) continue;
                int at = Due.next(first);
                met[at % 6] = true;
                second(seed, first, at);
            }
            for (int i = 0; i < 6; i++) Due.due(i + " was met", met[i], true);
            for (int seed = 0; seed < 60; seed++) alone(seed, seed * 2 + 367);
        });
    }

    static LitByLosers three() {
        LitByLosers x = new LitByLosers();
        for (int i = 0; i < 3; i++) x.person(50, 10);
        for (int i = 0; i < 5; i++) x.dispute(3 << i);
        x.dispute(1023);
        x.argue(5, 0, 1);
        return x;
    }

    /** All lamps are lit, PERSON 0 has 41, each one loses as the first one; the years' one draw is x. */
    static void alone(int seed, int x) {
        LitByLosers town = three();
        town.years(seed, 1);
        drawn("seed " + seed, town, x, 50);
        if (x % 6 == 3) {
            due("poured by seed " + seed, town.of(x % 3, 0), (x % 3 == 0 ? 41 : 50) + 1 + x / 6 % 5);
        }
    }

    static void second(int seed, int first, int x) {
        LitByLosers town = three();
        town.years(seed, 2);
        drawn("second of seed " + seed, town, x, 50 + (first % 3 == 2 ? 1 + first / 6 % 5 : 0));
    }

    static void drawn(String when, LitByLosers town, int x, int oilOfTwo) {
        int y = x / 6;
        int kind = x % 6;
        boolean argued = kind <= 1 && x % 3 != y % 3;
        boolean night = kind >= 4;
        due("X, " + when, town.is(1), Due.next(x, argued ? 2 : night ? 6 : 1));
        due("NIGHT, " + when, town.is(0), night ? 1 : 0);
        due("lines, " + when, town.book(-1, 0), argued || night ? 2 : 1);
        if (argued) {
            due("which, " + when, town.book(1, 1), y % 6);
            due("who, " + when, town.book(1, 2), x % 3);
        }
        if (kind == 2) due("snuffed, " + when, town.is(2), 1023 & ~(1 << y % 10));
        if (kind == 2) due("oil, " + when, town.of(2, 0), oilOfTwo);
    }

    static void yearsThatCannot() {
        Due.edge("(each if it can be)", () -> {
            // 379 mod 6 is 1; PERSON 379 mod 2 against PERSON 63 mod 2 is one against itself
            LitByLosers x = always(50, 7);
            x.years(6, 1);
            due("against itself", x.book(-1, 0), 0);
            due("X", x.is(1), Due.next(379));
            // 375 mod 6 is 3: 1 and 62 mod 5 for PERSON 375 mod 2: 3 more
            int[][] rows = {{95, 98}, {96, 99}, {97, 97}, {98, 98}, {99, 99}};
            for (int[] row : rows) {
                LitByLosers y = always(row[0], 7);
                y.years(4, 1);
                due("poured to " + row[0], y.of(1, 0), row[1]);
                due("the other one", y.of(0, 0), row[0]);
                due("X", y.is(1), Due.next(375));
                due("a step, be it or not", y.about(4), 1);
            }
            for (int seed = 1; seed < 4000; seed += 3) {
                int first = seed * 2 + 367;
                if (first % 6 != 3 || Due.next(first) % 6 != 2) continue;
                LitByLosers z = always(50, 7);
                z.years(seed, 2);
                due("dark lamps stay so", z.is(2), 0);
                due("X", z.is(1), Due.next(first, 2));
                break;
            }
        });
        Due.edge("ARGUED by PERSON x mod how many against PERSON x / 6 mod how many", () -> {
            for (int seed = 0; seed < 200; seed++) {
                int x = seed * 2 + 367;
                if (x % 6 != 1 || x % 4 == x / 6 % 4) continue;
                LitByLosers town = Due.ruled("loses 0;fills number+1;");
                for (int i = 0; i < 4; i++) town.person(50, 10);
                for (int i = 0; i < 7; i++) town.dispute(1 << i);
                town.years(seed, 1);
                due("which, seed " + seed, town.is(2), 1 << x / 6 % 7);
                due("the other one loses, seed " + seed, town.of(x / 6 % 4, 2), 1);
                due("what it pays, seed " + seed, town.of(x / 6 % 4, 0), 49 - x / 6 % 7);
                due("no one else, seed " + seed, town.is(3), 199 - x / 6 % 7);
                LitByLosers one = Due.ruled("loses 0;");
                for (int i = 0; i < 4; i++) one.person(50, 10);
                one.dispute(3);
                one.years(seed, 1);
                due("of one dispute, seed " + seed, one.book(0, 2), x / 6 % 4);
            }
        });
        Due.edge("a NIGHT (if it can pass)", () -> {
            LitByLosers x = always(50, 7);
            pass(x, 9998);
            due("the last one passes", x.years(2, 1), 9999);
            due("X", x.is(1), Due.next(371, 6));
            due("none passes", x.years(2, 1), 9999);
            due("X", x.is(1), Due.next(371));
            due("forty", x.years(2, 40), 9999);
        });
        Due.edge("What there are none of isn't", () -> {
            for (int seed = 0; seed < 40; seed++) {
                for (int people = 0; people <= 1; people++) {
                    for (int disputes = 0; disputes <= 1; disputes++) {
                        LitByLosers x = new LitByLosers();
                        if (people == 1) x.person(50, 5);
                        if (disputes == 1) x.dispute(1023);
                        int from = seed * 2 + 367;
                        due("years", x.years(seed, 1), from % 6 >= 4 ? 1 : 0);
                        due("no line", x.book(-1, 0), 0);
                        due("no lamp", x.is(2), 0);
                        due("oil", x.is(3), people == 0 ? 0 : from % 6 == 3 ? 51 + from / 6 % 5 : 50);
                        due("X", x.is(1), Due.next(from, from % 6 >= 4 ? 2 : 1));
                    }
                }
            }
        });
        Due.edge("It is one STEP: NIGHT", () -> {
            LitByLosers x = always(50, 7);
            int night = x.years(77, 40);
            due("night", x.is(0), night);
            due("one step", x.about(4), 1);
            due("undo", x.undo(), 0);
            due("night", x.is(0), 0);
            due("X", x.is(1), 367);
            due("oil", x.is(3), 100);
            due("book", x.book(-1, 0), 0);
        });
    }

    static void image() {
        Due.edge("THE IMAGE is this", () -> {
            LitByLosers x = always(50, 7);
            x.argue(0, 0, 1);
            Due.text(x, "fills 1;");
            x.by(0);
            x.street(1);
            x.verdict(0, true);
            x.said(0, 0, 0);
            due("back", x.back(), 0);
            int[] about = {0, 0, 0, -1, 0, 0, 0, 0, 0};
            for (int i = 0; i < 9; i++) due("about " + i, x.about(i), about[i]);
            int[] is = {0, 367, 0, 0, 0};
            for (int i = 0; i < 5; i++) due("is " + i, x.is(i), is[i]);
            due("book", x.book(-1, 0), 0);
            due("undo", x.undo(), -1);
        });
        Due.edge("all as it is, but the tape and the latest FAULT", () -> {
            LitByLosers x = new LitByLosers();
            x.feed(0x6E696768, 0x7420323B, 0x20202020, 0x20202020, 0x20202020);
            x.image();
            x.end(7);
            x.back();
            due("the tape stays cut", x.about(8), 7);
            due("a fault", x.text(), -1);
            x.back();
            due("the tape stays empty", x.about(8), 0);
            due("the fault stays", x.fault(0), 1);
            due("its place stays", x.fault(1), 7);
            x.image();
            Due.text(x, "loses 1;");
            x.back();
            due("the text is gone", x.about(2), 0);
            due("no fault stays", x.fault(0), 0);
            due("no place stays", x.fault(1), -1);
        });
        Due.edge("an image of texts that don't rule", () -> {
            LitByLosers x = always(9, 7);
            for (int i = 0; i < 4; i++) Due.text(x, "fills " + (i + 3) + ";");
            x.image();
            x.by(2);
            x.back();
            due("none rules", x.about(3), -1);
            for (int i = 0; i < 4; i++) {
                x.by(i);
                due("fills " + i, x.fills(0, 0), i + 3);
            }
        });
        Due.edge("an image of thirty steps", () -> {
            for (int more = 0; more < 40; more += 13) {
                LitByLosers x = new LitByLosers();
                x.person(0, 0);
                for (int i = 0; i < 30 + more; i++) x.pour(0, 1);
                x.image();
                for (int i = 0; i < 7; i++) x.undo();
                for (int i = 0; i < 45; i++) x.pour(0, i % 2 == 0 ? 5 : -5);
                x.back();
                for (int i = 29; i >= 0; i--) {
                    due("undo", x.undo(), i);
                    due("oil", x.of(0, 0), more + i);
                }
                due("none", x.undo(), -1);
            }
        });
        Due.edge("BACK: all is so again (it stays)", () -> {
            LitByLosers x = always(50, 7);
            x.night(2);
            due("image", x.image(), 2);
            for (int i = 0; i < 3; i++) {
                x.night(i + 1);
                due("back", x.back(), 2);
                due("night", x.is(0), 2);
            }
            due("back at once", x.back(), 2);
        });
    }
}
