/** Promises 23 to 35: which patterns disputes bring about, streets, bills. */
public final class PatternTests {
    public static void main(String[] args) {
        spanned();
        fromWhatIsLit();
        ofLikeOnes();
        nothingTurns();
        all();
        streets();
        lights();
        billsByLaw();
        billsOfLikeOnes();
        billsOfOthers();
        Due.finish("PatternTests");
    }

    static void due(String call, long got, long want) {
        Due.due(call, got, want);
    }

    static LitByLosers about(int... disputes) {
        LitByLosers x = new LitByLosers();
        for (int lamps : disputes) x.dispute(lamps);
        return x;
    }

    /** 3, 6 and 5 turn over nothing together; 0 turns over nothing alone; 8 stands for itself. */
    static void spanned() {
        LitByLosers x = about(3, 6, 5, 0, 8);
        due("23 rank", x.rank(), 3);
        due("30 basis", x.basis(), 19);
        due("26 weight", x.weight(), 1);
        int[] kernel = {7, 8, 15};
        due("29 how many", x.kernel(-1), 3);
        for (int i = 0; i < 3; i++) due("29 kernel", x.kernel(i), kernel[i]);
        for (int b : new int[] {3, -2, Integer.MIN_VALUE, Integer.MAX_VALUE}) due("29 none such", x.kernel(b), -2);
        int[] spare = {1, 1, 1, 1, 0};
        for (int i = 0; i < 5; i++) due("31 spare", x.spare(i), spare[i]);
        for (int b : new int[] {5, -1, Integer.MIN_VALUE, Integer.MAX_VALUE}) due("31 others", x.spare(b), -1);
        int[] reach = {8, 0, 3};
        for (int i = 0; i < 3; i++) due("27 reach", x.reach(i), reach[i]);
        due("27 others", x.reach(3), -1);
        due("27 others", x.reach(-1), -1);
        int[] pattern = {0, 8, 3, 11, -1, -1, -1, -1, -1, -1, -1};
        for (int i = 0; i < 11; i++) due("28 pattern", x.pattern(i), pattern[i]);
        for (int b : new int[] {11, -1, Integer.MIN_VALUE}) due("28 others", x.pattern(b), -1);
        due("25 ways", x.ways(3), 4);
        due("25 ways", x.ways(0), 4);
        due("25 no way", x.ways(1), 0);
        due("24 bring", x.bring(3, false), 1);
        due("24 how many", x.bring(3, true), 1);
        due("24 bring", x.bring(11, false), 17);
        due("24 how many", x.bring(11, true), 2);
        due("24 as now", x.bring(0, false), 0);
        due("24 as now", x.bring(0, true), 0);
        due("24 no way", x.bring(1, false), -1);
        due("24 no way", x.bring(1, true), -1);
        int[] nearest = {0, 0, 0, 3, 0, 5, 6, 3, 8, 8};
        for (int i = 0; i < nearest.length; i++) due("32 nearest to " + i, x.nearest(i), nearest[i]);
        due("32 nearest", x.nearest(1023), 11);
        for (int b : new int[] {-1, 1024, Integer.MIN_VALUE, Integer.MAX_VALUE}) {
            due("24 others", x.bring(b, true), -1);
            due("24 others", x.bring(b, false), -1);
            due("25 others", x.ways(b), -1);
            due("32 others", x.nearest(b), -1);
        }
        due("25 ways without disputes", about().ways(0), 1);
        due("29 kernel without disputes", about().kernel(0), -2);
    }

    static void fromWhatIsLit() {
        LitByLosers x = about(48);
        x.person(9, 0);
        x.person(9, 0);
        x.argue(0, 0, 1);
        x.snuff(4);
        int[] reach = {2, 1, 1};
        for (int i = 0; i < 3; i++) due("27 reach", x.reach(i), reach[i]);
        due("28 pattern", x.pattern(1), 16);
        due("28 none", x.pattern(0), -1);
        due("32 nearest", x.nearest(0), 16);
        due("32 nearest", x.nearest(1 << 5 | 1), 32);
        due("24 bring", x.bring(16, false), 1);
        due("24 bring", x.bring(32, false), 0);
        due("24 no way", x.bring(0, false), -1);
        due("25 ways", x.ways(16), 1);
        due("25 ways", x.ways(48), 0);
        due("26 weight", x.weight(), 2);
        due("23 rank", x.rank(), 1);
        due("18 changes nothing", x.is(2), 32);
        LitByLosers y = about(7);
        y.person(9, 0);
        y.person(9, 0);
        y.argue(0, 0, 1);
        due("27 the fewest", y.reach(1), 0);
        due("27 the most is as now", y.reach(2), 3);
        due("32 of like ones the lowest", about(3, 6).nearest(7), 3);
        due("32 of like ones the lowest", about(6, 3).nearest(7), 3);
    }

    static void ofLikeOnes() {
        LitByLosers x = about(2, 6, 5, 1);
        due("24 the lowest set of like ones", x.bring(7, false), 5);
        LitByLosers y = about(6, 5, 2, 1);
        due("24 the lowest set of like ones", y.bring(3, false), 3);
        due("24 how many", y.bring(3, true), 2);
        due("24 the fewest ahead of the lowest", about(1, 2, 4, 7).bring(7, false), 8);
        due("30 the first ones", about(6, 5, 3, 1).basis(), 11);
        due("26 least of a set of two", about(7, 14, 21).weight(), 2);
        due("26 all ten", about(1023).weight(), 10);
    }

    static void nothingTurns() {
        LitByLosers x = about(0, 0);
        due("26 none", x.weight(), -1);
        due("23 rank", x.rank(), 0);
        due("30 basis", x.basis(), 0);
        due("29 kernel", x.kernel(-1), 3);
        due("29 kernel", x.kernel(2), 3);
        due("31 spare", x.spare(0), 1);
        due("27 reach", x.reach(0), 1);
        due("25 ways", x.ways(0), 4);
        due("24 fewest", x.bring(0, true), 0);
        LitByLosers y = about(9, 9);
        due("31 each by the other", y.spare(0) + y.spare(1), 2);
        due("30 the first alone", y.basis(), 1);
    }

    static void all() {
        LitByLosers x = about(1, 2, 4, 8, 16, 32, 64, 128);
        due("23 rank", x.rank(), 8);
        due("27 reach", x.reach(0), 256);
        due("27 reach", x.reach(2), 8);
        due("24 bring", x.bring(255, false), 255);
        due("24 how many", x.bring(255, true), 8);
        due("29 kernel", x.kernel(-1), 0);
        due("30 basis", x.basis(), 255);
        due("28 pattern", x.pattern(8), 255);
        LitByLosers y = about(1, 1, 1, 1, 1, 1, 1, 1);
        due("25 ways", y.ways(0), 128);
        due("29 kernel", y.kernel(-1), 127);
        due("29 kernel", y.kernel(126), 255);
    }

    static void streets() {
        LitByLosers x = new LitByLosers();
        for (int b : new int[] {0, 1024, -2, Integer.MIN_VALUE, Integer.MAX_VALUE}) due("33 others", x.street(b), -2);
        int[] streets = {1023, 1, 1, 512, 7, 9};
        for (int i = 0; i < 6; i++) due("33 street", x.street(streets[i]), i + 1);
        due("33 there are six", x.street(1), -2);
        due("33 about", x.about(5), 6);
        due("33 none any more", x.street(-1), 0);
        due("33 about", x.about(5), 0);
        due("33 none any more", x.street(-1), 0);
        due("33 street", x.street(4), 1);
    }

    static void lights() {
        LitByLosers x = about(1, 2, 4, 7, 3);
        due("34 no streets", x.lights(false), 0);
        x.street(1);
        x.street(2);
        due("34 the lowest of like ones", x.lights(false), 8);
        due("34 how many", x.lights(true), 1);
        x.street(4);
        due("34 one for all", x.lights(false), 8);
        x.street(512);
        due("34 no way", x.lights(false), -1);
        due("34 no way", x.lights(true), -1);
        x.street(-1);
        x.street(8 | 2);
        x.street(4);
        due("34 one", x.lights(false), 8);
        x.person(20, 0);
        x.person(20, 0);
        x.argue(3, 0, 1);
        due("34 lit by now", x.lights(false), 0);
        due("34 lit by now", x.lights(true), 0);
        x.snuff(2);
        x.snuff(1);
        due("34 turned from now on", x.lights(false), 8);
        due("34 how many", x.lights(true), 1);
        x.street(1);
        due("34 not to be made dark", x.lights(false), 6);
        due("34 how many", x.lights(true), 2);
        LitByLosers y = about(2, 1, 2, 1);
        y.street(1);
        y.street(2);
        due("34 two of like ones", y.lights(false), 3);
    }

    static void billsByLaw() {
        LitByLosers x = Due.ruled("fills if who=0 then number+1 else 3 end;");
        for (int i = 0; i < 3; i++) x.dispute(1023);
        due("35 nobody", x.bill(7, -1), -2);
        due("35 nobody, of none", x.bill(0, -1), 0);
        x.person(2, 0);
        due("35 too little", x.bill(7, -1), -2);
        due("35 just enough", x.bill(2, -1), 2);
        x.person(50, 0);
        int[] bill = {7, 0, 1, 1};
        for (int what = -1; what < 3; what++) due("35 bill " + what, x.bill(7, what), bill[what + 1]);
        due("35 one", x.bill(4, 2), 1);
        due("35 one", x.bill(4, -1), 3);
        x.pour(0, 1);
        due("35 both for one", x.bill(7, -1), 6);
        due("35 who", x.bill(7, 1), 0);
        due("35 who", x.bill(7, 2), 1);
        x.pour(0, 96);
        due("35 of like ones the lowest", x.bill(7, 2), 0);
        due("35 oil", x.bill(7, -1), 6);
        x.person(0, 0);
        x.person(99, 0);
        due("35 four", x.bill(7, -1), 6);
        LitByLosers y = Due.ruled("fills 9-who*3;");
        for (int i = 0; i < 8; i++) y.dispute(1);
        for (int i = 0; i < 3; i++) y.person(99, 0);
        due("35 eight", y.bill(255, -1), 24);
        for (int i = 0; i < 8; i++) due("35 who of eight", y.bill(255, i), 2);
        y.pour(2, -87);
        int[] losers = {1, 1, 1, 1, 2, 2, 2, 2};
        due("35 eight", y.bill(255, -1), 36);
        for (int i = 0; i < 8; i++) due("35 who of eight", y.bill(255, i), losers[i]);
        y.person(0, 0);
        due("35 nothing to pay", y.bill(255, -1), 0);
    }

    static void billsOfLikeOnes() {
        LitByLosers x = about(3, 1, 7);
        x.person(3, 0);
        x.person(99, 0);
        int[] bill = {6, 0, 0, 1};
        for (int what = -1; what < 3; what++) due("35 bill " + what, x.bill(7, what), bill[what + 1]);
        x.pour(0, -1);
        int[] less = {6, 0, 1, 1};
        for (int what = -1; what < 3; what++) due("35 with less " + what, x.bill(7, what), less[what + 1]);
        LitByLosers y = about(3, 7);
        y.person(3, 0);
        y.person(2, 0);
        due("35 the only way", y.bill(3, -1), 5);
        due("35 the only way", y.bill(3, 0), 1);
        due("35 the only way", y.bill(3, 1), 0);
        y.pour(1, -1);
        due("35 no way", y.bill(3, -1), -2);
        due("35 no way", y.bill(3, 0), -2);
        LitByLosers z = about(0, 0);
        z.person(0, 0);
        due("35 for nothing", z.bill(3, -1), 0);
        due("35 for nothing", z.bill(3, 1), 0);
    }

    static void billsOfOthers() {
        LitByLosers x = about(3, 1, 7);
        x.person(9, 0);
        int[][] bad = {{8, -1}, {-1, -1}, {1024, -1}, {1, 1}, {1, -2}, {1, 3}, {7, 3}, {7, 32}, {7, Integer.MIN_VALUE},
            {7, Integer.MAX_VALUE}, {Integer.MIN_VALUE, -1}, {Integer.MAX_VALUE, -1}, {0, 0}};
        for (int[] b : bad) due("35 others", x.bill(b[0], b[1]), -2);
        due("35 of none", x.bill(0, -1), 0);
        due("35 just the oil", x.bill(7, -1), 6);
        due("35 changes nothing", x.of(0, 0), 9);
    }
}
