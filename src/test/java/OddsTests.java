/** Promises 36 to 42: wars, rests, beliefs, and how likely lamps are lit. */
public final class OddsTests {
    public static void main(String[] args) {
        wars();
        rests();
        verdicts();
        beliefs();
        walks();
        walksFromWhatIsLit();
        walksOfOthers();
        Due.finish("OddsTests");
    }

    static void due(String call, long got, long want) {
        Due.due(call, got, want);
    }

    static LitByLosers slips(int... slips) {
        LitByLosers x = new LitByLosers();
        for (int slip : slips) x.person(9, slip);
        return x;
    }

    static void war(LitByLosers x, int a, int b, int n, long upper, long lower) {
        due("36 war " + a + " " + b + " " + n, x.war(a, b, n, false), upper);
        due("36 war " + a + " " + b + " " + n + " low", x.war(a, b, n, true), lower);
    }

    static void wars() {
        LitByLosers x = slips(3, 1, 10, 0);
        war(x, 0, 1, 0, 0, 1);
        war(x, 0, 1, 1, 7, 100);
        war(x, 0, 1, 2, 1141, 10000);
        war(x, 0, 1, 3, 141883, 1000000);
        war(x, 0, 1, 4, 15938629, 100000000);
        war(x, 1, 0, 1, 27, 100);
        war(x, 2, 0, 4, 0, 1);
        war(x, 0, 2, 4, 7, 10);
        war(x, 3, 2, 1, 1, 1);
        war(x, 3, 0, 2, 51, 100);
        war(x, 0, 3, 4, 0, 1);
        war(slips(5, 5), 0, 1, 2, 5, 16);
        bad(x);
    }

    static void bad(LitByLosers x) {
        int[][] bad = {{0, 0, 1}, {-1, 0, 1}, {0, -1, 1}, {4, 0, 1}, {0, 4, 1}, {0, 1, -1}, {0, 1, 5},
            {0, 1, Integer.MAX_VALUE}, {0, 1, Integer.MIN_VALUE}, {Integer.MIN_VALUE, 1, 1}, {1, Integer.MAX_VALUE, 1}};
        for (int[] b : bad) {
            for (boolean low : new boolean[] {false, true}) {
                due("36 others", x.war(b[0], b[1], b[2], low), -1);
                due("37 others", x.rest(b[0], b[1], b[2], low), -1);
            }
        }
    }

    static void rest(LitByLosers x, int a, int b, int n, long upper, long lower) {
        due("37 rest " + a + " " + b + " " + n, x.rest(a, b, n, false), upper);
        due("37 rest " + a + " " + b + " " + n + " low", x.rest(a, b, n, true), lower);
    }

    static void rests() {
        LitByLosers x = slips(3, 1, 10, 0);
        rest(x, 0, 1, 0, 1, 1);
        rest(x, 0, 1, 1, 63, 100);
        rest(x, 1, 0, 2, 3969, 10000);
        rest(x, 0, 1, 4, 15752961, 100000000);
        rest(x, 0, 2, 1, 0, 1);
        rest(x, 0, 2, 0, 1, 1);
        rest(x, 3, 0, 2, 49, 100);
        rest(slips(0, 0), 0, 1, 4, 1, 1);
        rest(slips(5, 5), 0, 1, 2, 1, 16);
    }

    static void verdicts() {
        LitByLosers x = slips(3, 1);
        for (int b : new int[] {2, -2, 4, Integer.MIN_VALUE, Integer.MAX_VALUE}) due("38 others", x.verdict(b, true), -2);
        for (int i = 1; i <= 8; i++) due("38 verdict", x.verdict(i % 2, i > 4), i);
        due("38 there are eight", x.verdict(0, true), -2);
        due("38 about", x.about(6), 8);
        due("38 none any more", x.verdict(-1, false), 0);
        due("38 about", x.about(6), 0);
        due("38 verdict", x.verdict(1, false), 1);
    }

    static void belief(LitByLosers x, long upper, long lower) {
        due("39 belief", x.belief(false), upper);
        due("39 belief low", x.belief(true), lower);
    }

    static void beliefs() {
        LitByLosers x = slips(3, 1, 10, 0);
        belief(x, 1, 2);
        x.verdict(0, true);
        belief(x, 7, 10);
        x.verdict(1, false);
        belief(x, 7, 34);
        x.verdict(1, false);
        belief(x, 7, 250);
        x.verdict(2, true);
        belief(x, 0, 1);
        x.verdict(3, true);
        belief(x, -1, -1);
        x.verdict(-1, true);
        belief(x, 1, 2);
        x.verdict(3, true);
        belief(x, 1, 1);
        x.verdict(3, false);
        belief(x, -1, -1);
        x.verdict(-1, true);
        for (int i = 0; i < 8; i++) x.verdict(1, true);
        belief(x, 43046721, 43046722);
        LitByLosers y = slips(0, 0);
        for (int i = 0; i < 8; i++) y.verdict(i % 2, false);
        belief(y, 0, 1);
    }

    static void lit(LitByLosers x, int n, int lamp, long upper, long lower) {
        due("40 lit " + n + " " + lamp, x.lit(n, lamp, false), upper);
        due("40 lit " + n + " " + lamp + " low", x.lit(n, lamp, true), lower);
    }

    static void dark(LitByLosers x, int n, long upper, long lower) {
        due("41 dark " + n, x.dark(n, false), upper);
        due("41 dark " + n + " low", x.dark(n, true), lower);
    }

    static void mean(LitByLosers x, int n, long upper, long lower) {
        due("42 mean " + n, x.mean(n, false), upper);
        due("42 mean " + n + " low", x.mean(n, true), lower);
    }

    static LitByLosers about(int... disputes) {
        LitByLosers x = new LitByLosers();
        for (int lamps : disputes) x.dispute(lamps);
        return x;
    }

    static void walks() {
        LitByLosers x = about(1, 2, 4);
        lit(x, 0, 0, 0, 1);
        lit(x, 1, 0, 1, 3);
        lit(x, 2, 1, 4, 9);
        lit(x, 3, 2, 13, 27);
        lit(x, 6, 3, 0, 1);
        lit(x, 6, 0, 364, 729);
        dark(x, 0, 1, 1);
        dark(x, 1, 0, 1);
        dark(x, 2, 1, 3);
        dark(x, 3, 0, 1);
        dark(x, 4, 7, 27);
        mean(x, 0, 0, 1);
        mean(x, 1, 1, 1);
        mean(x, 2, 4, 3);
        mean(x, 3, 13, 9);
        LitByLosers y = about(1, 1, 1, 1, 1, 1, 1, 1023);
        lit(y, 6, 0, 0, 1);
        lit(y, 5, 0, 1, 1);
        lit(y, 1, 9, 1, 8);
        lit(y, 2, 9, 7, 32);
        mean(y, 1, 17, 8);
        dark(y, 2, 25, 32);
        LitByLosers z = about(512);
        lit(z, 1, 9, 1, 1);
        lit(z, 6, 9, 0, 1);
        dark(z, 1, 0, 1);
        dark(z, 6, 1, 1);
        mean(z, 5, 1, 1);
        dark(about(0), 3, 1, 1);
    }

    static void walksFromWhatIsLit() {
        LitByLosers x = about(3, 4);
        x.person(9, 0);
        x.person(9, 0);
        x.argue(0, 0, 1);
        lit(x, 0, 0, 1, 1);
        lit(x, 1, 0, 1, 2);
        lit(x, 1, 2, 1, 2);
        dark(x, 0, 0, 1);
        dark(x, 1, 1, 2);
        mean(x, 0, 2, 1);
        mean(x, 1, 3, 2);
        due("40 changes nothing", x.is(2), 3);
        LitByLosers y = about();
        lit(y, 6, 0, 0, 1);
        dark(y, 6, 1, 1);
        mean(y, 6, 0, 1);
    }

    static void walksOfOthers() {
        LitByLosers x = about(3, 4);
        for (boolean low : new boolean[] {false, true}) {
            for (int b : new int[] {-1, 7, Integer.MIN_VALUE, Integer.MAX_VALUE}) {
                due("40 others", x.lit(b, 0, low), -1);
                due("41 others", x.dark(b, low), -1);
                due("42 others", x.mean(b, low), -1);
            }
            for (int b : new int[] {-1, 10, 32, Integer.MIN_VALUE, Integer.MAX_VALUE}) due("40 others", x.lit(1, b, low), -1);
        }
    }
}
