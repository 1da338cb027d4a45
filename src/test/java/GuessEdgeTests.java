/** The boundaries of promises 36 to 57, promise by promise; each in the document's words. */
public final class GuessEdgeTests {
    static final int LEAST = Integer.MIN_VALUE;
    static final int MOST = Integer.MAX_VALUE;

    public static void main(String[] args) {
        wars();
        rests();
        verdicts();
        belief();
        litAndDark();
        mean();
        game();
        whodid();
        stretches();
        said();
        whose();
        blaze();
        people();
        solventAndFool();
        ledger();
        imageAndBack();
        counts();
        Due.finish("GuessEdgeTests");
    }

    static void due(String call, long got, long want) {
        Due.due(call, got, want);
    }

    static LitByLosers town(int... disputes) {
        LitByLosers x = new LitByLosers();
        for (int lamps : disputes) x.dispute(lamps);
        return x;
    }

    static LitByLosers slips(int... slips) {
        LitByLosers x = new LitByLosers();
        for (int slip : slips) x.person(9, slip);
        return x;
    }

    static LitByLosers alike(int lamps) {
        return town(lamps, lamps, lamps, lamps, lamps, lamps, lamps, lamps);
    }

    /** A town whose lamps of the first dispute are lit now. */
    static LitByLosers lit(int... disputes) {
        LitByLosers x = town(disputes);
        x.person(9, 0);
        x.person(9, 0);
        x.argue(0, 0, 1);
        return x;
    }

    static void part(String call, long upper, long lower, long up, long low) {
        due(call, upper, up);
        due(call + " low", lower, low);
    }

    static final int[][] NO_WAR = {{0, 0, 1}, {1, 1, 1}, {-1, 0, 1}, {0, -1, 1}, {2, 0, 1}, {0, 2, 1}, {0, 1, -1}, {0, 1, 5},
        {LEAST, 0, 1}, {0, MOST, 1}, {0, 1, LEAST}, {0, 1, MOST}};

    static void wars() {
        Due.edge("36: NONE for others (unlike PEOPLE; n 0 .. 4)", () -> {
            LitByLosers x = slips(3, 1);
            for (int[] row : NO_WAR) {
                String call = "war " + row[0] + ", " + row[1] + ", " + row[2];
                for (boolean low : new boolean[] {false, true}) due(call, x.war(row[0], row[1], row[2], low), -1);
            }
            due("nobody", town().war(0, 1, 1, false), -1);
        });
        Due.edge("36: how likely the first one has not given way, and the other one has, behind n NIGHTS at most", () -> {
            int[] all = {0, 1, 5, 9, 10};
            for (int a : all) {
                for (int b : all) {
                    LitByLosers x = slips(a, b);
                    long upper = 0;
                    long lower = 1;
                    long stay = 1;
                    for (int n = 0; n <= 4; n++) {
                        long common = gcd(upper, lower);
                        part("war of " + a + ", " + b + " in " + n, x.war(0, 1, n, false), x.war(0, 1, n, true), upper / common, lower / common);
                        upper = upper * 100 + stay * (10 - a) * b;
                        lower *= 100;
                        stay *= (10 - a) * (10 - b);
                    }
                }
            }
        });
    }

    static long gcd(long a, long b) {
        return b == 0 ? a : gcd(b, a % b);
    }

    static void rests() {
        Due.edge("37: NONE for others (likewise)", () -> {
            LitByLosers x = slips(3, 1);
            for (int[] row : NO_WAR) {
                String call = "rest " + row[0] + ", " + row[1] + ", " + row[2];
                for (boolean low : new boolean[] {false, true}) due(call, x.rest(row[0], row[1], row[2], low), -1);
            }
            due("nobody", town().rest(0, 1, 1, false), -1);
        });
        Due.edge("37: how likely none has, behind n. In lowest terms", () -> {
            int[] all = {0, 1, 5, 8, 10};
            for (int a : all) {
                for (int b : all) {
                    LitByLosers x = slips(a, b);
                    long upper = 1;
                    long lower = 1;
                    for (int n = 0; n <= 4; n++) {
                        long common = gcd(upper, lower);
                        part("rest of " + a + ", " + b + " in " + n, x.rest(0, 1, n, false), x.rest(0, 1, n, true), upper / common, lower / common);
                        upper *= (10 - a) * (10 - b);
                        lower *= 100;
                    }
                }
            }
        });
    }

    static void verdicts() {
        Due.edge("38: how many there are (person NONE: none any more). -2 for others, or if there are 8", () -> {
            LitByLosers x = slips(3, 1);
            due("none any more", x.verdict(-1, true), 0);
            for (int i = 1; i <= 8; i++) {
                for (int bad : new int[] {-2, 2, 4, LEAST, MOST}) due("verdict of " + bad, x.verdict(bad, i % 2 == 0), -2);
                due("verdict", x.verdict(i % 2, i % 3 == 0), i);
                due("about", x.about(6), i);
            }
            due("a ninth", x.verdict(0, true), -2);
            due("a ninth", x.verdict(1, false), -2);
            due("others", x.verdict(2, false), -2);
            due("there are eight", x.about(6), 8);
            due("none any more", x.verdict(-1, false), 0);
            due("none", x.about(6), 0);
            due("room again", x.verdict(0, true), 1);
            due("nobody", town().verdict(0, true), -2);
        });
    }

    static void belief() {
        Due.edge("39: as likely as not ahead of all", () -> {
            part("nobody", town().belief(false), town().belief(true), 1, 2);
            LitByLosers x = slips(3);
            part("no verdict", x.belief(false), x.belief(true), 1, 2);
            x.verdict(0, true);
            x.verdict(-1, true);
            part("none any more", x.belief(false), x.belief(true), 1, 2);
        });
        Due.edge("39: each is mistaken by odds of its SLIP of 10", () -> {
            for (int slip = 0; slip <= 10; slip++) {
                LitByLosers x = slips(slip);
                x.verdict(0, true);
                long common = gcd(10 - slip, 10);
                part("so, by slip " + slip, x.belief(false), x.belief(true), (10 - slip) / common, 10 / common);
                LitByLosers y = slips(slip);
                y.verdict(0, false);
                part("not so, by slip " + slip, y.belief(false), y.belief(true), slip / gcd(slip, 10), 10 / gcd(slip, 10));
            }
            LitByLosers x = slips(1, 5);
            for (int i = 0; i < 7; i++) x.verdict(0, i < 6);
            x.verdict(1, false);
            part("eight", x.belief(false), x.belief(true), 59049, 59050);
        });
        Due.edge("39: it can't be (all that were said can't be said, be it so or not)", () -> {
            LitByLosers x = slips(0, 10, 5);
            x.verdict(0, true);
            part("sure", x.belief(false), x.belief(true), 1, 1);
            x.verdict(1, false);
            part("sure by the one who slips always", x.belief(false), x.belief(true), 1, 1);
            x.verdict(2, false);
            part("sure yet", x.belief(false), x.belief(true), 1, 1);
            x.verdict(1, true);
            part("it can't be", x.belief(false), x.belief(true), -1, -1);
            x.verdict(-1, true);
            x.verdict(0, false);
            part("sure it isn't", x.belief(false), x.belief(true), 0, 1);
            x.verdict(0, true);
            part("both by one who slips never", x.belief(false), x.belief(true), -1, -1);
        });
    }

    static void litAndDark() {
        int[] bad = {-1, 7, LEAST, MOST};
        Due.edge("40, 41, 42: NONE for others (n 0 .. 6)", () -> {
            for (boolean low : new boolean[] {false, true}) {
                for (int n : bad) {
                    due("lit " + n, town(1).lit(n, 0, low), -1);
                    due("dark " + n, town(1).dark(n, low), -1);
                    due("mean " + n, town(1).mean(n, low), -1);
                }
                for (int lamp : new int[] {-1, 10, 31, 32, LEAST, MOST}) {
                    due("lamp " + lamp, town(1).lit(1, lamp, low), -1);
                    due("lamp " + lamp, town().lit(0, lamp, low), -1);
                }
            }
        });
        Due.edge("40: (without DISPUTES nothing)", () -> {
            for (int n = 0; n <= 6; n++) {
                part("lit " + n, town().lit(n, 9, false), town().lit(n, 9, true), 0, 1);
                part("dark " + n, town().dark(n, false), town().dark(n, true), 1, 1);
                part("mean " + n, town().mean(n, false), town().mean(n, true), 0, 1);
            }
        });
        Due.edge("40, 41: n times a DISPUTE, each alike, turns over its LAMPS from now on", () -> {
            // lamp 9 by one of eight: lit behind n by (1 - (6/8)^n) / 2
            LitByLosers x = town(512, 0, 0, 0, 0, 0, 0, 0);
            long up = 0;
            long low = 1;
            for (int n = 0; n <= 6; n++) {
                long common = gcd(up, low);
                part("lit behind " + n, x.lit(n, 9, false), x.lit(n, 9, true), up / common, low / common);
                part("dark behind " + n, x.dark(n, false), x.dark(n, true), (low - up) / common, low / common);
                part("mean behind " + n, x.mean(n, false), x.mean(n, true), up / common, low / common);
                part("lamp 0 behind " + n, x.lit(n, 0, false), x.lit(n, 0, true), 0, 1);
                up = up * 7 + (low - up);
                low *= 8;
            }
            LitByLosers y = town(1023);
            for (int n = 0; n <= 6; n++) {
                part("all lit behind " + n, y.lit(n, n, false), y.lit(n, n, true), n % 2, 1);
                part("all dark behind " + n, y.dark(n, false), y.dark(n, true), 1 - n % 2, 1);
                part("ten behind " + n, y.mean(n, false), y.mean(n, true), n % 2 * 10, 1);
            }
            LitByLosers z = lit(513, 0);
            part("lit now", z.lit(0, 9, false), z.lit(0, 9, true), 1, 1);
            part("lit behind one", z.lit(1, 9, false), z.lit(1, 9, true), 1, 2);
            part("not dark now", z.dark(0, false), z.dark(0, true), 0, 1);
            part("dark behind one", z.dark(1, false), z.dark(1, true), 1, 2);
        });
    }

    static void mean() {
        Due.edge("42: how many LAMPS are lit then on the whole, in lowest terms", () -> {
            LitByLosers x = alike(1023);
            part("ten", x.mean(1, false), x.mean(1, true), 10, 1);
            part("none", x.mean(6, false), x.mean(6, true), 0, 1);
            LitByLosers y = town(1, 3, 7);
            part("1, 2 or 3", y.mean(1, false), y.mean(1, true), 2, 1);
            part("now", y.mean(0, false), y.mean(0, true), 0, 1);
            LitByLosers z = lit(7, 1);
            part("now", z.mean(0, false), z.mean(0, true), 3, 1);
            part("0 or 2", z.mean(1, false), z.mean(1, true), 1, 1);
        });
    }

    static void game() {
        Due.edge("43: till half of them (of an odd number 1 more than the others) are said", () -> {
            // all alike: each one said turns the lamp over once more
            int[] said = {0, 1, 1, 2, 2, 3, 3, 4, 4};
            for (int many = 0; many <= 8; many++) {
                LitByLosers x = town();
                for (int i = 0; i < many; i++) x.dispute(1023);
                due("game of " + many, x.game(false), said[many] % 2 * 10);
                due("first of " + many, x.game(true), many == 0 ? -1 : 0);
            }
        });
        Due.edge("43: the first DISPUTE (who true; NONE: none)", () -> {
            due("none", town().game(true), -1);
            due("one of no lamps", town(0).game(true), 0);
            due("the lowest of like ones", town(1, 2).game(true), 0);
            due("the second", town(0, 2).game(true), 1);
            due("two turns each: it may wait", town(0, 0, 0, 0, 0, 0, 0, 1).game(true), 0);
            due("two turns each", town(0, 0, 0, 0, 0, 0, 0, 1).game(false), 1);
            due("one turn each: it may not wait", town(0, 0, 0, 1).game(true), 3);
            due("one turn each", town(0, 0, 0, 1).game(false), 1);
            due("two of three are said, the other one's the last", town(0, 0, 1).game(true), 2);
            due("three of five are said, the first one's the last", town(0, 0, 0, 0, 1).game(true), 0);
            due("three of five", town(1, 2, 0, 0, 4).game(false), 2);
        });
        Due.edge("43: from now on", () -> {
            due("lit now, made dark", lit(7).game(false), 0);
            due("lit now, none turned", lit(7, 0).game(false), 3);
            due("by the second", lit(7, 0).game(true), 1);
        });
    }

    static void whodid() {
        Due.edge("44: NONE for others (n 0 .. 8)", () -> {
            for (boolean first : new boolean[] {false, true}) {
                for (int bad : new int[] {-1, 9, LEAST, MOST}) due("whodid " + bad, alike(0).whodid(bad, first), -1);
            }
            int[] ways = {1, 8, 28, 56, 70, 56, 28, 8, 1};
            for (int n = 0; n <= 8; n++) {
                due("ways of " + n, alike(0).whodid(n, false), ways[n]);
                due("lowest of " + n, alike(0).whodid(n, true), (1 << n) - 1);
            }
        });
        Due.edge("44: (first true; NONE: none)", () -> {
            due("none of none", town().whodid(0, true), 0);
            due("none of none", town().whodid(0, false), 1);
            for (int n = 1; n <= 8; n++) {
                due("more than there are", town().whodid(n, true), -1);
                due("more than there are", town().whodid(n, false), 0);
            }
        });
        Due.edge("44: just those LAMPS that are otherwise now than in THE IMAGE", () -> {
            LitByLosers x = lit(7, 8, 7, 15);
            due("three are", x.whodid(1, true), 1);
            due("three are", x.whodid(1, false), 2);
            due("three are", x.whodid(2, true), 10);
            x.image();
            due("none is", x.whodid(0, true), 0);
            due("none is", x.whodid(1, true), -1);
            x.snuff(0);
            due("one went dark", x.whodid(1, false), 0);
            x.back();
            x.argue(1, 0, 1);
            due("one is lit", x.whodid(1, true), 2);
            due("one is lit", x.whodid(2, true), 9);
        });
    }

    static void stretches() {
        Due.edge("45, 46: stretches of LAMPS lit around (all lit: 1); at most (dark; all of them: 10)", () -> {
            for (int lamps = 0; lamps < 1024; lamps++) {
                LitByLosers x = town(lamps);
                x.person(9, 0);
                x.person(9, 0);
                x.argue(0, 0, 1);
                int begin = 0;
                int most = 0;
                int mostDark = 0;
                for (int from = 0; from < 10; from++) {
                    if ((lamps >> from & 1) == 1 && (lamps >> (from + 9) % 10 & 1) == 0) begin++;
                    int run = 0;
                    int dark = 0;
                    while (run < 10 && (lamps >> (from + run) % 10 & 1) == 1) run++;
                    while (dark < 10 && (lamps >> (from + dark) % 10 & 1) == 0) dark++;
                    most = Math.max(most, run);
                    mostDark = Math.max(mostDark, dark);
                }
                due("stretches of " + lamps, x.stretches(), lamps == 1023 ? 1 : begin);
                due("lit of " + lamps, x.stretch(true), most);
                due("dark of " + lamps, x.stretch(false), mostDark);
            }
        });
    }

    static void said() {
        Due.edge("47: how many there are (dispute NONE: none any more). -2 for others (0 .. 9), or if there are 8", () -> {
            LitByLosers x = lit(1, 2);
            int[][] bad = {{-2, 0, 0}, {2, 0, 0}, {LEAST, 0, 0}, {MOST, 0, 0}, {0, -1, 0}, {0, 2, 0}, {0, LEAST, 0},
                {0, MOST, 0}, {0, 0, -1}, {0, 0, 10}, {0, 0, LEAST}, {0, 0, MOST}};
            for (int i = 1; i <= 8; i++) {
                for (int[] row : bad) due("said " + row[0] + ", " + row[1] + ", " + row[2], x.said(row[0], row[1], row[2]), -2);
                due("said", x.said(i % 2, i % 2, i % 2 * 9), i);
                due("about", x.about(7), i);
            }
            due("a ninth", x.said(0, 0, 0), -2);
            due("there are eight", x.about(7), 8);
            due("none any more", x.said(-1, -7, 99), 0);
            due("none", x.about(7), 0);
            due("room again", x.said(1, 1, 9), 1);
            due("nobody", town(1).said(0, 0, 0), -2);
            due("no dispute", slips(1).said(0, 0, 0), -2);
        });
    }

    static void whose() {
        Due.edge("48: TEXTS (bits) by whose fills (a TEXT without it: by what is so without) all are so", () -> {
            LitByLosers x = lit(1023, 0);
            x.said(0, 0, 9);
            due("no texts", x.whose(), 0);
            Due.text(x, "");
            Due.text(x, "loses 3;");
            Due.text(x, "fills 9;");
            Due.text(x, "fills 10-who;");
            due("nine of ten, without and by the laws", x.whose(), 15);
            x.said(1, 0, 0);
            due("none of none, without", x.whose(), 3);
            x.said(1, 1, 9);
            due("by none", x.whose(), 0);
            x.said(-1, 0, 0);
            due("nothing said", x.whose(), 15);
            for (int i = 0; i < 7; i++) x.said(0, 1, 9);
            due("seven alike", x.whose(), 15);
            LitByLosers y = town(1, 1, 1, 1, 1, 1, 1, 1);
            for (int i = 0; i < 4; i++) y.person(9, 0);
            Due.text(y, "fills number;");
            Due.text(y, "fills who*2;");
            Due.text(y, "fills number+who-5;");
            for (int d = 0; d < 8; d++) {
                for (int p = 0; p < 4; p++) {
                    y.said(-1, 0, 0);
                    y.said(d, p, 4);
                    due("four of " + d + ", " + p, y.whose(), (d == 4 ? 1 : 0) + (p == 2 ? 2 : 0) + (d + p == 9 ? 4 : 0));
                }
            }
            x.said(1, 1, 0);
            due("all eight", x.whose(), 3);
        });
    }

    static void blaze() {
        Due.edge("49: BLAZE (most true), DIM (most false): the DISPUTE. NONE: none", () -> {
            due("none", town().blaze(true), -1);
            due("none", town().blaze(false), -1);
            due("the one", town(0).blaze(true), 0);
            due("the one", town(1023).blaze(false), 0);
            due("the last", town(0, 0, 0, 0, 0, 0, 0, 1).blaze(true), 7);
            due("the last", town(1, 1, 1, 1, 1, 1, 1, 0).blaze(false), 7);
        });
        Due.edge("49: of like ones the lowest", () -> {
            due("alike", alike(5).blaze(true), 0);
            due("alike", alike(5).blaze(false), 0);
            due("two lamps each", town(1, 3, 768, 5).blaze(true), 1);
            due("one lamp each", town(3, 512, 1).blaze(false), 1);
        });
        Due.edge("49: from now on", () -> {
            due("all lit: none turned", lit(1023, 1, 0).blaze(true), 2);
            due("all lit: all turned", lit(1023, 1, 0).blaze(false), 0);
        });
    }

    static void people() {
        Due.edge("50, 51: of like ones the lowest; none", () -> {
            due("none", town().surest(), -1);
            due("none", town().poorest(), -1);
            LitByLosers x = town();
            int[][] rows = {{99, 10}, {98, 10}, {98, 9}, {0, 0}};
            int[] surest = {0, 0, 2, 3};
            int[] poorest = {0, 1, 1, 3};
            for (int i = 0; i < 4; i++) {
                x.person(rows[i][0], rows[i][1]);
                due("surest of " + (i + 1), x.surest(), surest[i]);
                due("poorest of " + (i + 1), x.poorest(), poorest[i]);
            }
            LitByLosers y = slips(4, 4, 4, 4);
            due("alike", y.surest(), 0);
            due("alike", y.poorest(), 0);
            y.pour(0, 1);
            due("poured", y.poorest(), 1);
        });
    }

    static void solventAndFool() {
        Due.edge("52: PEOPLE (bits) whose OIL is no less than fills (as now) of any DISPUTE", () -> {
            due("nobody", town(1).solvent(), 0);
            due("no disputes", slips(1, 1, 1, 1).solvent(), 15);
            for (int oil = 0; oil <= 5; oil++) {
                LitByLosers x = town(7, 1, 3);
                x.person(oil, 0);
                x.person(99, 0);
                due("three of " + oil, x.solvent(), oil >= 3 ? 3 : 2);
            }
            LitByLosers y = alike(1023);
            y.person(8, 0);
            y.person(9, 0);
            due("nine at most", y.solvent(), 2);
            LitByLosers z = town(1, 0, 1023);
            z.person(1, 0);
            z.person(0, 0);
            due("the last one is too dear", z.solvent(), 0);
            LitByLosers w = Due.ruled("fills number*3;");
            w.person(0, 0);
            w.person(3, 0);
            w.dispute(1);
            due("of what is told alone", w.solvent(), 3);
            w.dispute(1);
            due("of both", w.solvent(), 2);
            w.dispute(1);
            due("of three", w.solvent(), 0);
        });
        Due.edge("53: the PERSON WRONG most often (once at least); of like ones the lowest; none", () -> {
            due("nobody", town().fool(), -1);
            LitByLosers x = slips(10, 10, 10, 10);
            x.dispute(0);
            due("none yet", x.fool(), -1);
            int[][] argued = {{3, 3}, {1, 1}, {2, 1}, {2, 2}, {3, 2}, {0, 2}, {3, 3}};
            for (int[] row : argued) {
                x.argue(0, row[0], (row[0] + 1) % 4);
                due("fool behind " + row[0], x.fool(), row[1]);
            }
        });
    }

    static void ledger() {
        Due.edge("54: how often a PERSON lost (NONE: all). -2 for others", () -> {
            LitByLosers x = slips(10, 10, 10);
            x.dispute(0);
            for (int bad : new int[] {3, 4, -2, LEAST, MOST}) due("ledger " + bad, x.ledger(bad), -2);
            due("nobody", town().ledger(0), -2);
            due("all of none", town().ledger(-1), 0);
            for (int i = 0; i < 3; i++) x.argue(0, 2, 0);
            for (int i = 0; i < 22; i++) x.argue(0, 1, 0);
            due("the third", x.ledger(2), 3);
            due("the second", x.ledger(1), 22);
            due("the first", x.ledger(0), 0);
            due("all", x.ledger(-1), 25);
            for (int i = 1; i <= 4; i++) {
                x.argue(0, 0, 1);
                due("the first", x.ledger(0), i);
                due("the third by the latest 25", x.ledger(2), Math.max(0, 3 - i));
                due("the second by the latest 25", x.ledger(1), i == 4 ? 21 : 22);
                due("all", x.ledger(-1), 25);
            }
        });
    }

    static void imageAndBack() {
        Due.edge("55, 56: NIGHT", () -> {
            LitByLosers x = town();
            due("image", x.image(), 0);
            due("back", x.back(), 0);
            x.night(60);
            due("image", x.image(), 60);
            x.night(7);
            due("back", x.back(), 60);
            for (int i = 0; i < 165; i++) x.night(60);
            x.night(39);
            due("the last night", x.image(), 9999);
            x.undo();
            due("back to it", x.back(), 9999);
            due("none can pass", x.night(1), -1);
        });
        Due.edge("56: all is so again, full as it was", () -> {
            LitByLosers x = new LitByLosers();
            for (int i = 0; i < 4; i++) x.person(20 + i, i);
            for (int i = 0; i < 8; i++) x.dispute(100 + i);
            for (int i = 0; i < 4; i++) Due.text(x, "fills " + i + ";");
            for (int i = 0; i < 6; i++) x.street(i + 1);
            for (int i = 0; i < 8; i++) x.verdict(i % 4, i < 4);
            for (int i = 0; i < 8; i++) x.said(i, i % 4, 3);
            x.by(3);
            x.night(40);
            int[] about = {4, 8, 4, 3, 30, 6, 8, 8};
            long up = x.belief(false);
            int whose = x.whose();
            int lights = x.lights(false);
            x.image();
            x.street(-1);
            x.verdict(-1, true);
            x.said(-1, 0, 0);
            x.by(-1);
            while (x.undo() > 0) due("undone", 0, 0);
            x.back();
            for (int i = 0; i < 8; i++) due("about " + i, x.about(i), about[i]);
            for (int i = 0; i < 4; i++) due("slip " + i, x.of(i, 1), i);
            for (int i = 0; i < 8; i++) due("lamps " + i, x.lamps(i), 100 + i);
            due("full", x.person(1, 1), -1);
            due("full", x.dispute(1), -1);
            due("full", x.street(1), -2);
            due("full", x.verdict(0, true), -2);
            due("full", x.said(0, 0, 0), -2);
            due("belief", x.belief(false), up);
            due("whose", x.whose(), whose);
            due("whose", whose, 8);
            due("lights", x.lights(false), lights);
            due("the text rules", x.fills(0, 0), 3);
            due("undo", x.undo(), 29);
        });
    }

    static void counts() {
        Due.edge("57: -2 for others", () -> {
            for (int bad : new int[] {-1, -2, 9, 10, LEAST, MOST}) due("about " + bad, town().about(bad), -2);
            int[] first = {0, 0, 0, -1, 0, 0, 0, 0, 0};
            for (int i = 0; i < 9; i++) due("about " + i, town().about(i), first[i]);
        });
    }
}
