/** Promises 16 to 22: what is, the book, and what is foretold (19 and 20: see LawTests). */
public final class IsTests {
    public static void main(String[] args) {
        ofAndLamps();
        is();
        book();
        foretold();
        Due.finish("IsTests");
    }

    static void due(String call, long got, long want) {
        Due.due(call, got, want);
    }

    static void ofAndLamps() {
        LitByLosers x = new LitByLosers();
        due("16 nobody", x.of(0, 0), -2);
        due("17 none", x.lamps(0), -1);
        x.person(9, 4);
        x.person(8, 10);
        x.dispute(1023);
        x.dispute(0);
        x.argue(0, 1, 0);
        int[] of = {0, 10, 1};
        for (int i = 0; i < 3; i++) due("16 of", x.of(1, i), of[i]);
        due("16 of", x.of(0, 0), 9);
        due("16 of", x.of(0, 2), 0);
        int[][] bad = {{-1, 0}, {2, 0}, {4, 0}, {0, 3}, {0, -1}, {Integer.MAX_VALUE, 0}, {0, Integer.MIN_VALUE}};
        for (int[] b : bad) due("16 others", x.of(b[0], b[1]), -2);
        due("17 lamps", x.lamps(0), 1023);
        due("17 lamps", x.lamps(1), 0);
        for (int b : new int[] {-1, 2, 8, Integer.MIN_VALUE, Integer.MAX_VALUE}) due("17 others", x.lamps(b), -1);
    }

    static void is() {
        LitByLosers x = new LitByLosers();
        x.person(9, 4);
        x.person(8, 0);
        x.dispute(1 << 8 | 1 << 9);
        due("18 argued", x.argue(0, 0, 1), 1);
        int[] is = {0, 10847, 768, 15, 0};
        for (int i = 0; i < 5; i++) due("18 is " + i, x.is(i), is[i]);
        due("18 a night", x.night(1), 2);
        int[] then = {1, 16036, 0, 13, 2};
        for (int i = 0; i < 5; i++) due("18 is " + i + " behind a night", x.is(i), then[i]);
        for (int b : new int[] {-1, 5, Integer.MIN_VALUE, Integer.MAX_VALUE}) due("18 others", x.is(b), -2);
    }

    static void book() {
        LitByLosers x = new LitByLosers();
        x.person(50, 10);
        x.person(50, 0);
        for (int i = 0; i < 8; i++) x.dispute(1 << i);
        due("21 none", x.book(-1, 0), 0);
        due("21 none such", x.book(0, 0), -2);
        x.argue(7, 0, 1);
        x.night(1);
        int[] line = {0, 7, 0, 128};
        for (int i = 0; i < 4; i++) due("21 line", x.book(0, i), line[i]);
        due("21 two", x.book(-1, 3), 2);
        for (int i = 0; i < 25; i++) x.argue(i % 8, 1, 0);
        due("21 the latest", x.book(-1, 0), 25);
        due("21 NONE whatever else", x.book(-1, 77), 25);
        for (int i = 0; i < 25; i++) {
            due("21 dispute", x.book(i, 1), i % 8);
            due("21 night", x.book(i, 0), 1);
            due("21 who lost", x.book(i, 2), 0);
        }
        due("21 lamps then", x.book(24, 3), x.is(2));
        int[][] bad = {{25, 0}, {-2, 0}, {0, 4}, {0, -1}, {Integer.MAX_VALUE, 0}, {Integer.MIN_VALUE, 0}, {0, Integer.MIN_VALUE}};
        for (int[] b : bad) due("21 others", x.book(b[0], b[1]), -2);
    }

    static void foretold() {
        LitByLosers x = Due.ruled("loses 4+night;fills lit+night*2+wrong;");
        x.person(90, 3);
        x.person(80, 2);
        x.person(70, 1);
        x.dispute(7);
        x.dispute(1000);
        x.argue(0, 0, 1);
        int[] is = new int[5];
        for (int i = 0; i < 5; i++) is[i] = x.is(i);
        int[][] bad = {{0, 0}, {61, 0}, {-1, 1}, {1, 2}, {1, -1}, {Integer.MAX_VALUE, 0}, {1, Integer.MIN_VALUE}};
        for (int[] b : bad) due("22 others", x.foretold(b[0], b[1]), -1);
        int lit = x.foretold(20, 0);
        int oil = x.foretold(20, 1);
        int one = x.foretold(1, 0);
        due("22 sixty", x.foretold(60, 1) >= 0 ? 1 : 0, 1);
        for (int i = 0; i < 5; i++) due("22 changes nothing", x.is(i), is[i]);
        due("22 no step", x.about(4), 1);
        due("22 no line", x.book(-1, 0), 1);
        due("22 nobody is wrong", x.of(0, 2) + x.of(1, 2) + x.of(2, 2), 1);
        x.night(1);
        due("22 behind one", x.is(2), one);
        x.night(19);
        due("22 lamps lit", x.is(2), lit);
        due("22 oil of all", x.is(3), oil);
        due("22 oil was burnt", oil < is[3] ? 1 : 0, 1);
    }
}
