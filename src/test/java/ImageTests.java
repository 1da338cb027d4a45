/** Promises 55 to 57: the image, back to it, and about. */
public final class ImageTests {
    public static void main(String[] args) {
        all();
        stays();
        steps();
        counts();
        Due.finish("ImageTests");
    }

    static void due(String call, long got, long want) {
        Due.due(call, got, want);
    }

    static LitByLosers full() {
        LitByLosers x = Due.ruled("loses 3+night;fills 2;night 1;");
        x.person(60, 4);
        x.person(50, 2);
        x.dispute(7);
        x.dispute(0b1100000);
        x.argue(0, 0, 1);
        x.night(2);
        x.pour(0, 9);
        x.street(3);
        x.verdict(1, true);
        x.said(1, 0, 2);
        return x;
    }

    /** All that can be asked, in one row. */
    static long[] asked(LitByLosers x) {
        long[] row = new long[70];
        int at = 0;
        for (int i = 0; i < 8; i++) row[at++] = x.about(i);
        for (int i = 0; i < 5; i++) row[at++] = x.is(i);
        for (int p = 0; p < 4; p++) for (int i = 0; i < 3; i++) row[at++] = x.of(p, i);
        for (int d = 0; d < 8; d++) row[at++] = x.lamps(d);
        for (int i = -1; i < 4; i++) for (int w = 0; w < 4; w++) row[at++] = x.book(i, w);
        row[at++] = x.loses(1, 0, 1);
        row[at++] = x.fills(1, 0);
        row[at++] = x.lights(true);
        row[at++] = x.belief(false);
        row[at++] = x.belief(true);
        row[at++] = x.whose();
        row[at++] = x.foretold(5, 0);
        row[at++] = x.foretold(5, 1);
        row[at++] = x.bill(3, -1);
        return row;
    }

    static void like(String when, long[] got, long[] want) {
        for (int i = 0; i < want.length; i++) due(when + ", row " + i, got[i], want[i]);
    }

    static void change(LitByLosers x) {
        Due.text(x, "fills 7;");
        x.by(1);
        x.person(1, 1);
        x.dispute(1023);
        for (int i = 0; i < 9; i++) x.argue(2, 2, 1);
        due("a change", x.of(2, 2) > 0 ? 1 : 0, 1);
        x.years(77, 20);
        x.night(9);
        x.street(64);
        x.street(128);
        x.verdict(0, false);
        x.said(0, 1, 7);
    }

    static void all() {
        LitByLosers x = full();
        long[] row = asked(x);
        due("55 image", x.image(), 2);
        like("55 changes nothing", asked(x), row);
        change(x);
        x.street(-1);
        due("56 back", x.back(), 2);
        like("56 all is so again", asked(x), row);
        due("13 the text is as it was", x.played(0), -1);
        due("2 the next number", x.person(3, 3), 2);
        due("2 not wrong yet", x.of(2, 2), 0);
        due("3 the next number", x.dispute(9), 2);
        due("6 the next number", Due.text(x, "fills 5;"), 1);
        x.by(1);
        due("20 by the new text", x.fills(0, 0), 5);
    }

    static void stays() {
        LitByLosers x = full();
        x.image();
        long[] row = asked(x);
        for (int i = 0; i < 3; i++) {
            change(x);
            due("56 back", x.back(), 2);
            like("56 again", asked(x), row);
        }
        change(x);
        int night = x.is(0);
        due("55 a new image", x.image(), night);
        due("44 as in the image", x.whodid(0, false), 1);
        row = asked(x);
        change(x);
        due("56 back", x.back(), night);
        like("56 to the new one", asked(x), row);
        LitByLosers y = full();
        y.feed(1, 2, 3, 4, 5);
        y.back();
        due("56 to the new object", y.about(0) + y.about(1) + y.about(2) + y.about(4) + y.about(5) + y.about(6) + y.about(7), 0);
        due("56 nobody rules", y.about(3), -1);
        due("56 X", y.is(1), 367);
        due("56 the tape stays", y.about(8), 20);
        due("56 the latest fault stays", y.fault(0), 0);
    }

    static void steps() {
        LitByLosers x = full();
        due("57 steps", x.about(4), 4);
        x.image();
        x.undo();
        x.undo();
        x.back();
        due("56 steps are so again", x.about(4), 4);
        for (int i = 0; i < 40; i++) x.night(1);
        x.back();
        due("56 steps are so again", x.about(4), 4);
        due("15 undo", x.undo(), 3);
        due("15 oil", x.of(0, 0) + x.of(1, 0), x.is(3));
        due("15 undo", x.undo(), 2);
        due("15 night", x.is(0), 1);
        due("15 undo", x.undo(), 1);
        due("15 undo", x.undo(), 0);
        due("15 X", x.is(1), 367);
        due("15 oil", x.of(0, 0), 60);
        due("15 none", x.undo(), -1);
        LitByLosers y = full();
        y.night(60);
        int[] lit = new int[31];
        y.image();
        for (int i = 0; i <= 30; i++) {
            lit[i] = y.is(2);
            y.undo();
        }
        y.back();
        for (int i = 0; i <= 30; i++) {
            due("56 step " + i, y.is(2), lit[i]);
            y.undo();
        }
    }

    static void counts() {
        LitByLosers x = full();
        int[] about = {2, 2, 1, 0, 4, 1, 1, 1, 0};
        for (int i = 0; i < about.length; i++) due("57 about " + i, x.about(i), about[i]);
        x.feed(0, 0, 0, 0, 0);
        due("57 tape", x.about(8), 20);
        for (int b : new int[] {-1, 9, Integer.MIN_VALUE, Integer.MAX_VALUE}) due("57 others", x.about(b), -2);
    }
}
