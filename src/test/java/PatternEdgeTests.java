/** The boundaries of promises 23 to 35, promise by promise; each in the document's words. */
public final class PatternEdgeTests {
    static final int LEAST = Integer.MIN_VALUE;
    static final int MOST = Integer.MAX_VALUE;
    static final int[] NO_LAMPS = {-1, 1024, 2047, LEAST, MOST};

    public static void main(String[] args) {
        rank();
        bring();
        ways();
        weight();
        reach();
        pattern();
        kernel();
        basis();
        spare();
        nearest();
        streets();
        lights();
        bills();
        billsThatCannot();
        billsOfLikeOnes();
        Due.finish("PatternEdgeTests");
    }

    static void due(String call, long got, long want) {
        Due.due(call, got, want);
    }

    static LitByLosers town(int... disputes) {
        LitByLosers x = new LitByLosers();
        for (int lamps : disputes) x.dispute(lamps);
        return x;
    }

    /** A town whose lamps of the first dispute are lit now. */
    static LitByLosers lit(int... disputes) {
        LitByLosers x = town(disputes);
        x.person(9, 0);
        x.person(9, 0);
        x.argue(0, 0, 1);
        return x;
    }

    static LitByLosers alike(int lamps) {
        return town(lamps, lamps, lamps, lamps, lamps, lamps, lamps, lamps);
    }

    static LitByLosers eight() {
        return town(1, 2, 4, 8, 16, 32, 64, 128);
    }

    static void rank() {
        Due.edge("23: the most DISPUTES of which no set (but none) turns over nothing", () -> {
            due("without disputes", town().rank(), 0);
            due("of no lamps", town(0).rank(), 0);
            due("of no lamps", alike(0).rank(), 0);
            due("one", town(1023).rank(), 1);
            due("alike", alike(1023).rank(), 1);
            due("eight", eight().rank(), 8);
            due("seven and all of them together", town(1, 2, 4, 8, 16, 32, 64, 127).rank(), 7);
            due("two and both", town(512, 1, 513).rank(), 2);
            due("lit lamps don't count", lit(3, 5).rank(), 2);
        });
    }

    static void bring() {
        Due.edge("24: NONE: no way, and for others", () -> {
            for (boolean many : new boolean[] {false, true}) {
                for (int bad : NO_LAMPS) {
                    due("bring " + bad, town().bring(bad, many), -1);
                    due("bring " + bad, eight().bring(bad, many), -1);
                }
                due("no way without disputes", town().bring(1, many), -1);
                due("no way", eight().bring(256, many), -1);
                due("no way", alike(3).bring(1, many), -1);
            }
        });
        Due.edge("24: from what is lit now: the fewest DISPUTES, each once", () -> {
            due("none", town().bring(0, true), 0);
            due("none", town().bring(0, false), 0);
            due("as now", lit(7, 7).bring(7, false), 0);
            due("as now", lit(7, 7).bring(7, true), 0);
            due("dark again", lit(7, 7).bring(0, false), 1);
            due("all eight", eight().bring(255, false), 255);
            due("all eight", eight().bring(255, true), 8);
            due("all lamps", town(0, 1023).bring(1023, false), 2);
            due("fewest though higher", town(1, 2, 4, 7).bring(7, false), 8);
            due("all ten lit", lit(1022, 1).bring(1023, false), 2);
        });
        Due.edge("24: of like ones the lowest set", () -> {
            due("alike", alike(5).bring(5, false), 1);
            due("alike", alike(5).bring(0, false), 0);
            due("two of two", town(1, 2, 1, 2).bring(3, false), 3);
            due("the second two", town(4, 1, 2, 1, 2).bring(3, false), 6);
        });
    }

    static void ways() {
        Due.edge("25: how many sets of DISPUTES bring it. NONE for others", () -> {
            for (int bad : NO_LAMPS) due("ways " + bad, eight().ways(bad), -1);
            due("without disputes", town().ways(0), 1);
            due("without disputes", town().ways(1), 0);
            due("without disputes", town().ways(1023), 0);
            due("of no lamps", alike(0).ways(0), 256);
            due("of no lamps", alike(0).ways(1), 0);
            due("alike", alike(1023).ways(1023), 128);
            due("eight", eight().ways(255), 1);
            due("eight", eight().ways(256), 0);
            due("as now", lit(7, 7).ways(7), 2);
            due("dark again", lit(7, 7).ways(0), 2);
        });
    }

    static void weight() {
        Due.edge("26: the fewest LAMPS (one at least) that some set turns over; none", () -> {
            due("without disputes", town().weight(), -1);
            due("of no lamps", town(0).weight(), -1);
            due("of no lamps", alike(0).weight(), -1);
            due("one", town(0, 512).weight(), 1);
            due("ten", town(1023).weight(), 10);
            due("ten", alike(1023).weight(), 10);
            due("nine and the one that is left", town(1023, 511).weight(), 1);
            due("lit lamps don't count", lit(31, 31).weight(), 5);
        });
    }

    static void reach() {
        Due.edge("27: 0 how many patterns, 1 the fewest LAMPS lit, 2 the most. NONE for others", () -> {
            for (int bad : new int[] {-1, 3, LEAST, MOST}) due("reach " + bad, eight().reach(bad), -1);
            int[][] due = {{1, 0, 0}, {256, 0, 8}, {2, 0, 10}, {1, 0, 0}};
            LitByLosers[] towns = {town(), eight(), alike(1023), alike(0)};
            for (int i = 0; i < towns.length; i++) {
                for (int what = 0; what < 3; what++) due("reach " + what + " of town " + i, towns[i].reach(what), due[i][what]);
            }
        });
        Due.edge("27: (as now, too)", () -> {
            LitByLosers x = lit(1023, 1023);
            int[] all = {2, 0, 10};
            for (int what = 0; what < 3; what++) due("reach " + what, x.reach(what), all[what]);
            x.snuff(9);
            int[] nine = {2, 1, 9};
            for (int what = 0; what < 3; what++) due("reach " + what, x.reach(what), nine[what]);
            for (int lamp = 5; lamp < 9; lamp++) x.snuff(lamp);
            int[] five = {2, 5, 5};
            for (int what = 0; what < 3; what++) due("reach " + what, x.reach(what), five[what]);
        });
    }

    static void pattern() {
        Due.edge("28: the lowest (bits). NONE: none, and for others (0 .. 10)", () -> {
            for (int bad : new int[] {-1, 11, LEAST, MOST}) due("pattern " + bad, eight().pattern(bad), -1);
            int[] lowest = {0, 1, 3, 7, 15, 31, 63, 127, 255, -1, -1};
            for (int lit = 0; lit <= 10; lit++) due("pattern " + lit, eight().pattern(lit), lowest[lit]);
            due("without disputes", town().pattern(0), 0);
            due("without disputes", town().pattern(1), -1);
            due("all ten", town(1023).pattern(10), 1023);
            due("as now", lit(1023).pattern(10), 1023);
            due("nine", town(1023, 512).pattern(9), 511);
            LitByLosers x = lit(1023, 1);
            x.snuff(9);
            due("no dark one", x.pattern(0), -1);
            due("nine", x.pattern(9), 511);
            due("one", x.pattern(1), 512);
            due("two", x.pattern(2), 513);
        });
    }

    static void kernel() {
        Due.edge("29: those of DISPUTES (but none) that turn over nothing, from the lowest on", () -> {
            due("how many of none", town().kernel(-1), 0);
            due("how many of eight", eight().kernel(-1), 0);
            due("how many of one", town(0).kernel(-1), 1);
            due("of one", town(0).kernel(0), 1);
            LitByLosers x = alike(0);
            due("how many", x.kernel(-1), 255);
            for (int i = 0; i < 255; i++) due("kernel " + i, x.kernel(i), i + 1);
            LitByLosers y = alike(9);
            due("how many", y.kernel(-1), 127);
            int at = 0;
            for (int set = 1; set < 256; set++) {
                if (Integer.bitCount(set) % 2 == 0) due("kernel " + at, y.kernel(at++), set);
            }
        });
        Due.edge("29: -2 if there is none such", () -> {
            for (int bad : new int[] {0, 1, -2, LEAST, MOST}) {
                due("kernel " + bad + " of none", town().kernel(bad), -2);
                due("kernel " + bad + " of eight", eight().kernel(bad), -2);
            }
            for (int bad : new int[] {255, 256, -2, LEAST, MOST}) due("kernel " + bad, alike(0).kernel(bad), -2);
            due("one beyond", alike(9).kernel(127), -2);
        });
    }

    static void basis() {
        Due.edge("30: whose LAMPS no set of those taken ahead (none at all, too) turns over", () -> {
            due("without disputes", town().basis(), 0);
            due("of no lamps", town(0).basis(), 0);
            due("of no lamps", alike(0).basis(), 0);
            due("alike", alike(9).basis(), 1);
            due("eight", eight().basis(), 255);
            due("behind one of no lamps", town(0, 7, 7, 1).basis(), 10);
            due("the third of two", town(3, 5, 6, 8).basis(), 11);
            due("the last of all", town(1, 2, 4, 8, 16, 32, 64, 127).basis(), 127);
            due("not taken, so not used", town(1, 1, 2, 3, 4).basis(), 21);
        });
    }

    static void spare() {
        Due.edge("31: Whether a DISPUTE is SPARE (1, 0). NONE for others", () -> {
            for (int bad : new int[] {-1, 8, LEAST, MOST}) due("spare " + bad, eight().spare(bad), -1);
            due("without disputes", town().spare(0), -1);
            due("not told", town(1).spare(1), -1);
            for (int d = 0; d < 8; d++) {
                due("of eight", eight().spare(d), 0);
                due("alike", alike(9).spare(d), 1);
            }
        });
        Due.edge("31: some set of others (none at all, too)", () -> {
            due("of no lamps, alone", town(0).spare(0), 1);
            due("of some lamps, alone", town(512).spare(0), 0);
            due("the last of all", town(1, 2, 4, 8, 16, 32, 64, 127).spare(7), 1);
            due("the first of all", town(127, 1, 2, 4, 8, 16, 32, 64).spare(0), 1);
            due("the last by none", town(1, 2, 4, 8, 16, 32, 64, 255).spare(7), 0);
        });
    }

    static void nearest() {
        Due.edge("32: NEAREST (bits). NONE for others", () -> {
            for (int bad : NO_LAMPS) due("nearest " + bad, eight().nearest(bad), -1);
            for (int lamps : new int[] {0, 1, 512, 1023}) due("without disputes", town().nearest(lamps), 0);
            due("itself", eight().nearest(255), 255);
            due("all but two", eight().nearest(1023), 255);
            due("as now", lit(7, 0).nearest(7), 7);
            due("none of five", town(31).nearest(3), 0);
            due("three of five", town(31).nearest(7), 31);
        });
        Due.edge("32: of like ones the lowest", () -> {
            due("none or four", town(15).nearest(3), 0);
            due("four are lit, or none", lit(15).nearest(3), 0);
            due("two of three", town(12, 3).nearest(5), 0);
            due("ten, five asked for", lit(1023).nearest(31), 0);
        });
    }

    static void streets() {
        Due.edge("33: how many there are (lamps NONE: none any more). -2 for others (bits, not 0), or if there are 6", () -> {
            LitByLosers x = town();
            for (int bad : new int[] {0, -2, 1024, 2047, LEAST, MOST}) due("street " + bad, x.street(bad), -2);
            due("none", x.about(5), 0);
            due("none any more", x.street(-1), 0);
            int[] good = {1, 512, 1023, 1, 1, 2};
            for (int i = 0; i < 6; i++) {
                due("street " + good[i], x.street(good[i]), i + 1);
                due("about", x.about(5), i + 1);
                due("others", x.street(0), -2);
            }
            due("a seventh", x.street(4), -2);
            due("there are six", x.about(5), 6);
            due("none any more", x.street(-1), 0);
            due("none", x.about(5), 0);
            due("room again", x.street(4), 1);
        });
    }

    static void lights() {
        Due.edge("34: behind which each STREET has a LAMP lit", () -> {
            LitByLosers x = town(3, 12);
            due("no streets", x.lights(false), 0);
            due("no streets", x.lights(true), 0);
            x.street(1);
            due("one", x.lights(false), 1);
            x.street(8);
            due("two", x.lights(false), 3);
            due("how many", x.lights(true), 2);
            LitByLosers y = eight();
            for (int i = 0; i < 6; i++) y.street(1 << 2 * i % 8);
            due("four", y.lights(false), 85);
            LitByLosers z = eight();
            for (int i = 2; i < 8; i++) z.street(1 << i);
            due("six of eight", z.lights(false), 252);
            due("how many", z.lights(true), 6);
        });
        Due.edge("34: NONE: no way", () -> {
            for (boolean many : new boolean[] {false, true}) {
                LitByLosers x = town();
                x.street(1023);
                due("without disputes", x.lights(many), -1);
                x.street(-1);
                due("no streets any more", x.lights(many), 0);
                LitByLosers y = town(1, 3);
                y.street(4);
                due("a lamp of none", y.lights(many), -1);
                LitByLosers z = lit(3, 3, 3);
                z.snuff(0);
                z.street(1);
                z.street(2);
                due("the one or the other", z.lights(many), -1);
            }
        });
        Due.edge("34: of like ones the lowest set", () -> {
            LitByLosers x = alike(7);
            x.street(4);
            due("the first one", x.lights(false), 1);
            LitByLosers y = town(1, 2, 4, 3, 5, 6);
            y.street(1);
            y.street(2);
            y.street(4);
            due("the lowest of two", y.lights(false), 12);
            y.street(-1);
            y.street(6);
            due("the lowest of one", y.lights(false), 2);
        });
    }

    static void bills() {
        Due.edge("35: NONE as what: the oil; else who loses the DISPUTE what", () -> {
            LitByLosers x = eight();
            for (int i = 0; i < 4; i++) x.person(2, 0);
            due("all eight", x.bill(255, -1), 8);
            for (int d = 0; d < 8; d++) due("who " + d, x.bill(255, d), d / 2);
            due("the first one", x.bill(1, 0), 0);
            due("the last one", x.bill(128, 7), 0);
            due("first and last", x.bill(129, -1), 2);
        });
        Due.edge("35: (of none 0; no way)", () -> {
            due("of none, nobody", town().bill(0, -1), 0);
            due("of none", eight().bill(0, -1), 0);
            due("of one, nobody", eight().bill(1, -1), -2);
            due("for nothing, nobody", town(0).bill(1, -1), -2);
        });
        Due.edge("35: no one more than its OIL in all", () -> {
            for (int oil = 0; oil <= 7; oil++) {
                LitByLosers x = town(7, 7);
                x.person(oil, 0);
                due("three of " + oil, x.bill(1, -1), oil >= 3 ? 3 : -2);
                due("six of " + oil, x.bill(3, -1), oil >= 6 ? 6 : -2);
                due("who, of " + oil, x.bill(3, 1), oil >= 6 ? 0 : -2);
                x.person(3, 0);
                due("six of both " + oil, x.bill(3, -1), oil >= 3 ? 6 : -2);
                due("the first, of both " + oil, x.bill(3, 0), oil >= 3 ? 0 : -2);
                due("the second, of both " + oil, x.bill(3, 1), oil >= 6 ? 0 : oil >= 3 ? 1 : -2);
            }
            LitByLosers y = alike(1023);
            y.person(72, 0);
            due("nine each", y.bill(255, -1), 72);
            y.pour(0, -1);
            due("one too little", y.bill(255, -1), -2);
            due("seven of them", y.bill(254, -1), 63);
        });
    }

    static void billsThatCannot() {
        Due.edge("35: -2: no way, it is none of them, and for others", () -> {
            LitByLosers x = eight();
            x.person(99, 0);
            for (int bad : new int[] {-1, 256, 511, LEAST, MOST}) for (int what = -1; what < 2; what++) due("bill " + bad, x.bill(bad, what), -2);
            for (int what : new int[] {-2, 8, 31, 32, 40, LEAST, MOST}) due("what " + what, x.bill(255, what), -2);
            for (int d = 0; d < 8; d++) {
                due("none of them " + d, x.bill(255 - (1 << d), d), -2);
                due("the one " + d, x.bill(1 << d, d), 0);
                due("of none " + d, x.bill(0, d), -2);
            }
            LitByLosers y = town(1);
            y.person(9, 0);
            due("not told", y.bill(2, -1), -2);
            due("not told", y.bill(3, -1), -2);
            due("not told", y.bill(1, 1), -2);
            due("none told", town().bill(1, -1), -2);
            due("none told", town().bill(0, 0), -2);
        });
    }

    static void billsOfLikeOnes() {
        Due.edge("35: the one with the lowest PERSON for the lowest DISPUTE, then for the next, ..", () -> {
            LitByLosers x = town(1, 3, 1);
            x.person(2, 0);
            x.person(2, 0);
            int[] first = {0, 1, 0};
            for (int d = 0; d < 3; d++) due("who " + d, x.bill(7, d), first[d]);
            x.person(9, 0);
            for (int d = 0; d < 3; d++) due("who of three " + d, x.bill(7, d), first[d]);
            LitByLosers y = town(3, 1, 1, 3);
            y.person(3, 0);
            y.person(3, 0);
            int[] second = {0, 0, 1, 1};
            for (int d = 0; d < 4; d++) due("who of two " + d, y.bill(15, d), second[d]);
            due("oil", y.bill(15, -1), 6);
        });
        Due.edge("35: the least oil together", () -> {
            LitByLosers x = Due.ruled("fills 4-who;");
            x.dispute(1);
            x.dispute(1);
            for (int i = 0; i < 4; i++) x.person(3, 0);
            due("oil", x.bill(3, -1), 2);
            due("the last one", x.bill(3, 0), 3);
            due("the last one", x.bill(3, 1), 3);
            x.pour(3, -2);
            due("oil", x.bill(3, -1), 3);
            due("the third", x.bill(3, 0), 2);
            due("the last one", x.bill(3, 1), 3);
            x.pour(3, -1);
            due("oil", x.bill(3, -1), 5);
            due("the second", x.bill(3, 0), 1);
            due("the third", x.bill(3, 1), 2);
        });
        Due.edge("35: who pays fills (as now, each)", () -> {
            LitByLosers x = Due.ruled("fills oil;");
            x.dispute(1);
            x.dispute(1);
            x.person(4, 0);
            x.person(5, 0);
            due("each as now, not behind the other", x.bill(3, -1), 9);
            due("who", x.bill(3, 0), 0);
            due("who", x.bill(3, 1), 1);
        });
    }
}
