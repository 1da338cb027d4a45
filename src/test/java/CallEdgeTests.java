/** The boundaries of promises 1 to 22, promise by promise; each in the document's words. */
public final class CallEdgeTests {
    static final int LEAST = Integer.MIN_VALUE;
    static final int MOST = Integer.MAX_VALUE;

    public static void main(String[] args) {
        face();
        people();
        disputes();
        tape();
        texts();
        faults();
        ruling();
        argue();
        pour();
        snuff();
        night();
        playedAndYears();
        undo();
        asked();
        lawsAsked();
        book();
        foretold();
        Due.finish("CallEdgeTests");
    }

    static void due(String call, long got, long want) {
        Due.due(call, got, want);
    }

    static void due(String call, boolean got, boolean want) {
        Due.due(call, got, want);
    }

    static LitByLosers two(int... disputes) {
        LitByLosers x = new LitByLosers();
        x.person(20, 3);
        x.person(6, 1);
        for (int lamps : disputes) x.dispute(lamps);
        return x;
    }

    static void face() {
        Due.edge("NONE = -1: None", () -> due("NONE", LitByLosers.NONE, -1));
        Due.edge("for at most 512 calls after it has been made", () -> {
            LitByLosers x = new LitByLosers();
            x.person(49, 10);
            x.person(99, 0);
            x.dispute(1);
            for (int i = 3; i < 509; i++) {
                if (i % 2 == 1) due("argue, call " + (i + 1), x.argue(0, 0, 1), 0);
                else due("pour, call " + (i + 1), x.pour(0, 1), true);
            }
            due("oil, call 510", x.of(0, 0), 49);
            due("steps, call 511", x.about(4), 30);
            due("wrong, call 512", x.of(0, 2), 253);
        });
    }

    static void people() {
        Due.edge("2: NONE for others (0 .. 99; 0 .. 10)", () -> {
            int[][] bad = {{-1, 5}, {100, 5}, {5, -1}, {5, 11}, {LEAST, 5}, {MOST, 5}, {5, LEAST}, {5, MOST}, {-1, 11}, {100, -1}};
            for (int[] row : bad) {
                LitByLosers x = new LitByLosers();
                due("person " + row[0] + ", " + row[1], x.person(row[0], row[1]), -1);
                due("nobody", x.about(0), 0);
                due("the next one", x.person(5, 5), 0);
            }
            int[][] good = {{0, 0}, {99, 0}, {0, 10}, {99, 10}};
            LitByLosers x = new LitByLosers();
            for (int i = 0; i < 4; i++) {
                due("person", x.person(good[i][0], good[i][1]), i);
                due("oil", x.of(i, 0), good[i][0]);
                due("slip", x.of(i, 1), good[i][1]);
            }
        });
        Due.edge("2: or if there are 4", () -> {
            LitByLosers x = new LitByLosers();
            for (int i = 0; i < 4; i++) x.person(i, i);
            due("a fifth", x.person(50, 5), -1);
            due("a fifth", x.person(0, 0), -1);
            due("people", x.about(0), 4);
            due("oil", x.is(3), 6);
            for (int i = 0; i < 4; i++) due("as told", x.of(i, 0) * 100 + x.of(i, 1), i * 101);
            x.back();
            due("room again", x.person(50, 5), 0);
        });
    }

    static void disputes() {
        Due.edge("3: NONE for others (bits of LAMPS)", () -> {
            for (int bad : new int[] {-1, 1024, 1025, 2047, LEAST, MOST}) {
                LitByLosers x = new LitByLosers();
                due("dispute " + bad, x.dispute(bad), -1);
                due("none", x.about(1), 0);
                due("the next one", x.dispute(0), 0);
            }
            LitByLosers x = new LitByLosers();
            for (int lamps : new int[] {0, 1, 512, 1023}) due("lamps", x.lamps(x.dispute(lamps)), lamps);
        });
        Due.edge("3: or if there are 8", () -> {
            LitByLosers x = new LitByLosers();
            for (int i = 0; i < 8; i++) x.dispute(i);
            due("a ninth", x.dispute(5), -1);
            due("a ninth", x.dispute(0), -1);
            due("disputes", x.about(1), 8);
            for (int i = 0; i < 8; i++) due("as told", x.lamps(i), i);
            x.back();
            due("room again", x.dispute(5), 0);
        });
    }

    static void tape() {
        Due.edge("4: Twenty bytes come behind the tape, the highest of a first", () -> {
            String text = "loses 1;snuff 9;!xyz";
            for (int at = 0; at < 20; at++) {
                // a byte of 255 is no token: the fault tells where it came to
                int[] words = new int[5];
                for (int i = 0; i < 20; i++) words[i / 4] |= (i == at ? 255 : ' ') << 24 - 8 * (i % 4);
                LitByLosers x = new LitByLosers();
                due("feed", x.feed(words[0], words[1], words[2], words[3], words[4]), 20);
                due("text", x.text(), -1);
                due("place", x.fault(1), at);
            }
            LitByLosers x = new LitByLosers();
            due("a text", Due.text(x, text), -1);
            due("place", x.fault(1), 16);
        });
        Due.edge("4: how many it has", () -> {
            LitByLosers x = new LitByLosers();
            for (int i = 1; i <= 15; i++) {
                due("feed", x.feed(LEAST, -1, 0, 1, MOST), 20 * i);
                due("about", x.about(8), 20 * i);
            }
        });
        Due.edge("4: NONE, and none come, if there would be more than 300", () -> {
            for (int has : new int[] {280, 281, 299, 300}) {
                LitByLosers x = new LitByLosers();
                for (int i = 0; i < 15; i++) x.feed(0x20202020, 0x20202020, 0x20202020, 0x20202020, 0x20202020);
                due("end", x.end(has), has);
                due("feed at " + has, x.feed(0x21212121, 0, 0, 0, 0), has == 280 ? 300 : -1);
                due("about", x.about(8), has == 280 ? 300 : has);
                due("text", x.text(), has == 280 ? -1 : 0);
                due("place", x.fault(1), has == 280 ? 280 : -1);
            }
        });
        Due.edge("5: NONE, and nothing is done, if it has not so many, or n is below 0", () -> {
            LitByLosers x = new LitByLosers();
            due("end 0 of 0", x.end(0), 0);
            for (int bad : new int[] {1, -1, 20, LEAST, MOST}) due("end " + bad + " of 0", x.end(bad), -1);
            x.feed(0, 0, 0, 0, 0);
            for (int bad : new int[] {21, -1, 300, LEAST, MOST}) {
                due("end " + bad + " of 20", x.end(bad), -1);
                due("about", x.about(8), 20);
            }
            due("end 20 of 20", x.end(20), 20);
            due("end 19 of 20", x.end(19), 19);
            due("end 20 of 19", x.end(20), -1);
            due("end 0 of 19", x.end(0), 0);
            due("end 1 of 0", x.end(1), -1);
            for (int i = 0; i < 15; i++) x.feed(0, 0, 0, 0, 0);
            due("end 301 of 300", x.end(301), -1);
            due("end 300 of 300", x.end(300), 300);
        });
    }

    static void texts() {
        Due.edge("6: The tape (empty then) is a TEXT: its number", () -> {
            LitByLosers x = new LitByLosers();
            for (int i = 0; i < 4; i++) {
                due("text", Due.text(x, i % 2 == 0 ? "loses " + i + ";" : ""), i);
                due("empty then", x.about(8), 0);
                due("texts", x.about(2), i + 1);
            }
        });
        Due.edge("6: NONE: it has a FAULT", () -> {
            LitByLosers x = new LitByLosers();
            due("text", Due.text(x, "loses"), -1);
            due("texts", x.about(2), 0);
            due("the tape is a text no more", x.about(8), 0);
            due("the next one", Due.text(x, "loses 1;"), 0);
            due("another fault", Due.text(x, "fills 1;fills 2;"), -1);
            x.by(0);
            x.person(1, 1);
            x.dispute(1023);
            due("nothing of it is told", x.fills(0, 0), 9);
            due("the next one", Due.text(x, "fills 3;"), 1);
        });
        Due.edge("6: or (the tape stays) there are 4", () -> {
            for (String fifth : new String[] {"fills 1;", "oops", ""}) {
                LitByLosers x = new LitByLosers();
                for (int i = 0; i < 4; i++) Due.text(x, "night 1;");
                due("fifth", Due.text(x, fifth), -1);
                due("the tape stays", x.about(8), fifth.length());
                due("texts", x.about(2), 4);
                due("fault", x.fault(0), 0);
                due("place", x.fault(1), -1);
                due("fifth again", x.text(), -1);
                due("the tape stays", x.about(8), fifth.length());
                x.back();
                due("behind back", x.text(), fifth.equals("oops") ? -1 : 0);
                due("fault", x.fault(0), fifth.equals("oops") ? 1 : 0);
                due("the tape is empty", x.about(8), 0);
            }
        });
    }

    static void faults() {
        Due.edge("7: 0 its FAULT (0 without), 1 its place (NONE without)", () -> {
            LitByLosers x = new LitByLosers();
            Due.text(x, "loses 1;");
            due("without", x.fault(0), 0);
            due("without", x.fault(1), -1);
            Due.text(x, "!");
            due("fault", x.fault(0), 1);
            due("at the first byte", x.fault(1), 0);
            Due.text(x, "loses 1;!");
            due("fault", x.fault(0), 1);
            due("place", x.fault(1), 8);
            Due.text(x, "");
            due("without again", x.fault(0), 0);
            due("without again", x.fault(1), -1);
        });
        Due.edge("7: NONE for others, and ahead of any", () -> {
            LitByLosers x = new LitByLosers();
            for (int what : new int[] {0, 1, 2, -1, LEAST, MOST}) due("ahead of any " + what, x.fault(what), -1);
            x.feed(0, 0, 0, 0, 0);
            x.end(3);
            due("ahead of any", x.fault(0), -1);
            x.text();
            for (int what : new int[] {2, -1, LEAST, MOST}) due("others " + what, x.fault(what), -1);
            due("place", x.fault(1), 0);
        });
    }

    static void ruling() {
        Due.edge("8: THE TEXT (NONE: none): true. False for others", () -> {
            LitByLosers x = new LitByLosers();
            for (int text = -3; text < 6; text++) due("by " + text + " of none", x.by(text), text == -1);
            for (int told = 1; told <= 4; told++) {
                Due.text(x, "loses " + told + ";");
                for (int text = 0; text < 6; text++) {
                    due("by " + text + " of " + told, x.by(text), text < told);
                    due("about", x.about(3), Math.min(text, told - 1));
                }
            }
            for (int bad : new int[] {-2, 4, LEAST, MOST}) {
                due("by " + bad, x.by(bad), false);
                due("still", x.about(3), 3);
            }
            due("none", x.by(-1), true);
            due("none", x.about(3), -1);
        });
    }

    static void argue() {
        Due.edge("9: NONE for others (unlike PEOPLE)", () -> {
            int[][] bad = {{-1, 0, 1}, {2, 0, 1}, {8, 0, 1}, {0, -1, 1}, {0, 2, 1}, {0, 0, -1}, {0, 0, 2}, {0, 0, 0}, {0, 1, 1}, {LEAST, 0, 1},
                {MOST, 0, 1}, {0, LEAST, 1}, {0, MOST, 1}, {0, 0, LEAST}, {0, 0, MOST}, {0, -1, -1}, {0, 2, 2}};
            LitByLosers x = two(7, 8);
            for (int[] row : bad) due("argue " + row[0] + ", " + row[1] + ", " + row[2], x.argue(row[0], row[1], row[2]), -1);
            due("no draw", x.is(1), 367);
            due("no step", x.about(4), 0);
            due("no line", x.book(-1, 0), 0);
            due("the last ones", x.argue(1, 1, 0), 0);
            due("no dispute", two().argue(0, 0, 1), -1);
            LitByLosers y = new LitByLosers();
            y.dispute(1);
            due("nobody", y.argue(0, 0, 1), -1);
            y.person(1, 1);
            due("one alone", y.argue(0, 0, 1), -1);
            due("one alone", y.argue(0, 0, 0), -1);
        });
        Due.edge("9: ARGUED: the PERSON that loses", () -> {
            LitByLosers x = new LitByLosers();
            for (int i = 0; i < 4; i++) x.person(9, i == 3 ? 10 : 0);
            for (int i = 0; i < 8; i++) x.dispute(i);
            due("the first one", x.argue(7, 3, 0), 3);
            due("the other one", x.argue(7, 0, 3), 3);
            due("the other one", x.argue(0, 1, 2), 2);
        });
    }

    static void pour() {
        Due.edge("10: False for others (-99 .. 99, not 0)", () -> {
            LitByLosers x = two(7);
            int[][] bad = {{0, 0}, {0, 100}, {0, -100}, {0, LEAST}, {0, MOST}, {-1, 1}, {2, 1}, {LEAST, 1}, {MOST, 1}, {1, 0}, {-1, 0}};
            for (int[] row : bad) due("pour " + row[0] + ", " + row[1], x.pour(row[0], row[1]), false);
            due("no step", x.about(4), 0);
            due("oil", x.is(3), 26);
            LitByLosers y = new LitByLosers();
            y.person(99, 0);
            due("99 less", y.pour(0, -99), true);
            due("99 more", y.pour(0, 99), true);
            due("nobody", new LitByLosers().pour(0, 1), false);
        });
        Due.edge("10: and if there would be less than 0, or more than 99", () -> {
            for (int has = 0; has <= 99; has += 11) {
                LitByLosers x = new LitByLosers();
                x.person(has, 0);
                due("one less than none of " + has, x.pour(0, -has - 1), false);
                due("one more than most of " + has, x.pour(0, 100 - has), false);
                due("oil", x.of(0, 0), has);
                due("no step", x.about(4), 0);
                due("to none of " + has, x.pour(0, -has), has > 0);
                due("oil", x.of(0, 0), 0);
                x.pour(0, has);
                due("to most of " + has, x.pour(0, 99 - has), has < 99);
                due("oil", x.of(0, 0), 99);
            }
        });
    }

    static void snuff() {
        Due.edge("11: False, if it is dark, and for others", () -> {
            LitByLosers x = two(1023);
            for (int lamp = -2; lamp < 12; lamp++) due("dark " + lamp, x.snuff(lamp), false);
            x.argue(0, 0, 1);
            for (int bad : new int[] {-1, 10, 31, 32, 41, LEAST, LEAST + 5, MOST}) due("no lamp " + bad, x.snuff(bad), false);
            due("lit", x.is(2), 1023);
            due("no step", x.about(4), 1);
            due("lamp 9", x.snuff(9), true);
            due("lamp 9 is dark", x.snuff(9), false);
            due("lamp 0", x.snuff(0), true);
            due("lamp 0 is dark", x.snuff(0), false);
            due("steps", x.about(4), 3);
        });
    }

    static void night() {
        Due.edge("12: NIGHTS pass (1 .. 60): how much oil is burnt in them. NONE for others", () -> {
            for (int n : new int[] {1, 2, 59, 60}) {
                LitByLosers x = new LitByLosers();
                x.person(99, 10);
                x.person(99, 10);
                x.dispute(1);
                due("nights " + n, x.night(n), n);
                due("night", x.is(0), n);
                due("oil", x.is(3), 198 - n);
                due("steps", x.about(4), Math.min(n, 30));
            }
            LitByLosers x = two(7);
            for (int n : new int[] {0, -1, 61, 120, LEAST, MOST}) {
                due("nights " + n, x.night(n), -1);
                due("night", x.is(0), 0);
                due("X", x.is(1), 367);
                due("no step", x.about(4), 0);
            }
        });
        Due.edge("12: or beyond 9999 (nothing is done then)", () -> {
            LitByLosers x = new LitByLosers();
            for (int i = 0; i < 166; i++) x.night(60);
            due("night", x.is(0), 9960);
            int at = x.is(1);
            for (int n : new int[] {40, 41, 60}) due("beyond by " + (n - 39), x.night(n), -1);
            due("nothing is done", x.is(0), 9960);
            due("nothing is done", x.is(1), at);
            due("just to the last", x.night(39), 0);
            due("night", x.is(0), 9999);
            due("X", x.is(1), Due.next(at, 39));
            due("one more", x.night(1), -1);
        });
    }

    static void playedAndYears() {
        Due.edge("13: -2 for others", () -> {
            LitByLosers x = new LitByLosers();
            for (int bad : new int[] {-1, 0, 4, LEAST, MOST}) due("played " + bad, x.played(bad), -2);
            for (int i = 0; i < 4; i++) Due.text(x, "person " + i + " slip 0;");
            for (int bad : new int[] {-1, -2, 4, LEAST, MOST}) due("played " + bad, x.played(bad), -2);
            due("nobody", x.about(0), 0);
            due("the last one", x.played(3), -1);
            due("its oil", x.of(0, 0), 3);
            due("the first one", x.played(0), -1);
            due("its oil", x.of(1, 0), 0);
            x.played(1);
            x.played(2);
            due("a fifth person", x.played(0), 0);
        });
        Due.edge("14: YEARS: NIGHT. NONE for others", () -> {
            LitByLosers x = two(7);
            int[][] bad = {{-1, 1}, {10000, 1}, {LEAST, 1}, {MOST, 1}, {0, 0}, {0, 41}, {0, -1}, {0, LEAST}, {0, MOST}, {9999, 41}, {-1, 0}};
            for (int[] row : bad) {
                due("years " + row[0] + ", " + row[1], x.years(row[0], row[1]), -1);
                due("X", x.is(1), 367);
                due("no step", x.about(4), 0);
            }
            for (int[] good : new int[][] {{0, 1}, {9999, 1}, {0, 40}, {9999, 40}}) {
                due("years " + good[0] + ", " + good[1], x.years(good[0], good[1]), x.is(0));
            }
            due("steps", x.about(4), 4);
        });
    }

    static void undo() {
        Due.edge("15: how many can be yet. NONE: there is none", () -> {
            LitByLosers x = two(7);
            due("none", x.undo(), -1);
            x.argue(0, 0, 1);
            due("one", x.undo(), 0);
            due("none", x.undo(), -1);
            due("none", x.undo(), -1);
            x.night(60);
            due("thirty", x.undo(), 29);
            x.night(2);
            due("thirty again", x.about(4), 30);
            for (int i = 29; i >= 0; i--) due("undo", x.undo(), i);
            due("none", x.undo(), -1);
            due("night", x.is(0), 31);
        });
    }

    static void asked() {
        Due.edge("16: Of a PERSON: 0 OIL, 1 SLIP, 2 how often WRONG. -2 for others", () -> {
            LitByLosers x = two(7);
            int[] bad = {-1, 2, 3, 4, LEAST, MOST};
            for (int person : bad) for (int what = 0; what < 3; what++) due("of " + person, x.of(person, what), -2);
            for (int what : new int[] {-1, 3, LEAST, MOST}) due("what " + what, x.of(0, what), -2);
            due("nobody", new LitByLosers().of(0, 0), -2);
        });
        Due.edge("17: The LAMPS of a DISPUTE (bits). NONE for others", () -> {
            LitByLosers x = new LitByLosers();
            for (int bad : new int[] {-1, 0, 8, LEAST, MOST}) due("lamps " + bad, x.lamps(bad), -1);
            for (int i = 0; i < 8; i++) {
                x.dispute(1023 - i);
                due("lamps", x.lamps(i), 1023 - i);
                due("not told yet", x.lamps(i + 1), -1);
            }
        });
        Due.edge("18: -2 for others", () -> {
            LitByLosers x = new LitByLosers();
            for (int bad : new int[] {-1, -2, 5, 6, LEAST, MOST}) due("is " + bad, x.is(bad), -2);
            due("oil of nobody", x.is(3), 0);
            for (int i = 0; i < 4; i++) x.person(99, 0);
            due("oil of all", x.is(3), 396);
        });
    }

    static void lawsAsked() {
        Due.edge("19: -100 for others (unlike PEOPLE)", () -> {
            LitByLosers x = two(7, 8);
            int[][] bad = {{-1, 0, 1}, {2, 0, 1}, {0, -1, 1}, {0, 2, 1}, {0, 0, -1}, {0, 0, 2}, {0, 0, 0}, {0, 1, 1}, {LEAST, 0, 1}, {MOST, 0, 1},
                {0, LEAST, 1}, {0, MOST, 1}, {0, 0, LEAST}, {0, 0, MOST}};
            for (int[] row : bad) due("loses " + row[0] + ", " + row[1] + ", " + row[2], x.loses(row[0], row[1], row[2]), -100);
            due("the last ones", x.loses(1, 1, 0), 1);
            due("nobody", new LitByLosers().loses(0, 0, 1), -100);
        });
        Due.edge("20: -100 for others", () -> {
            LitByLosers x = two(7, 8);
            int[][] bad = {{-1, 0}, {2, 0}, {0, -1}, {0, 2}, {LEAST, 0}, {MOST, 0}, {0, LEAST}, {0, MOST}};
            for (int[] row : bad) due("fills " + row[0] + ", " + row[1], x.fills(row[0], row[1]), -100);
            due("the last ones", x.fills(1, 1), 1);
            due("nobody", new LitByLosers().fills(0, 0), -100);
            due("no dispute", two().fills(0, 0), -100);
        });
    }

    static void book() {
        Due.edge("21: BOOK: how many (i NONE)", () -> {
            LitByLosers x = two(7);
            for (int i = 0; i < 27; i++) {
                due("lines", x.book(-1, 0), Math.min(i, 25));
                x.argue(0, 0, 1);
            }
            for (int what : new int[] {-1, 3, 4, LEAST, MOST}) due("whatever else", x.book(-1, what), 25);
        });
        Due.edge("21: -2 if there is none such, and for others", () -> {
            LitByLosers x = two(7);
            for (int what = 0; what < 4; what++) due("none", x.book(0, what), -2);
            x.argue(0, 0, 1);
            for (int i : new int[] {1, 24, 25, -2, LEAST, MOST}) for (int what = 0; what < 4; what++) due("line " + i, x.book(i, what), -2);
            for (int what : new int[] {-1, 4, LEAST, MOST}) due("what " + what, x.book(0, what), -2);
            for (int i = 0; i < 30; i++) x.argue(0, 0, 1);
            due("the last line", x.book(24, 1), 0);
            due("one beyond", x.book(25, 1), -2);
            due("who lost", x.book(24, 2) >= 0 ? 1 : 0, 1);
        });
        Due.edge("21: the i-th, from the eldest on", () -> {
            LitByLosers x = two(1, 2, 4, 8, 16, 32, 64, 128);
            for (int done = 1; done <= 60; done++) {
                x.argue(done % 8, 0, 1);
                int lines = Math.min(done, 25);
                due("the eldest of " + done, x.book(0, 1), (done - lines + 1) % 8);
                due("the latest of " + done, x.book(lines - 1, 1), done % 8);
                due("lamps of the latest", x.book(lines - 1, 3), x.is(2));
            }
        });
    }

    static void foretold() {
        Due.edge("22: NONE for others", () -> {
            LitByLosers x = two(7);
            for (int n : new int[] {0, -1, 61, LEAST, MOST}) {
                due("nights " + n, x.foretold(n, 0), -1);
                due("nights " + n, x.foretold(n, 1), -1);
            }
            for (int what : new int[] {-1, 2, LEAST, MOST}) due("what " + what, x.foretold(1, what), -1);
            due("nobody", new LitByLosers().foretold(60, 0), 0);
            due("nobody", new LitByLosers().foretold(60, 1), 0);
        });
        Due.edge("behind n NIGHTS (1 .. 60", () -> {
            for (int n : new int[] {1, 2, 30, 31, 59, 60}) {
                LitByLosers x = two(7, 600, 1023);
                int lit = x.foretold(n, 0);
                int oil = x.foretold(n, 1);
                x.night(n);
                due("lit behind " + n, x.is(2), lit);
                due("oil behind " + n, x.is(3), oil);
            }
        });
        Due.edge("those that can pass)", () -> {
            LitByLosers x = new LitByLosers();
            x.person(99, 10);
            x.person(99, 0);
            for (int i = 0; i < 166; i++) x.night(60);
            x.night(37);
            x.dispute(1);
            due("two can pass", x.foretold(2, 1), 196);
            due("no more than two can", x.foretold(3, 1), 196);
            due("no more than two can", x.foretold(60, 1), 196);
            x.night(1);
            due("one can pass", x.foretold(60, 1), 196);
            due("oil", x.is(3), 197);
            x.night(1);
            due("none can", x.foretold(1, 1), 196);
            due("none can", x.foretold(60, 1), 196);
            due("as now", x.foretold(60, 0), x.is(2));
        });
    }
}
