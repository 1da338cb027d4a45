import java.lang.reflect.Method;
import java.util.ArrayList;
import java.util.Arrays;
import java.util.List;

/**
 * What is refused changes nothing, and what is only asked changes nothing: of two objects made alike one has the call,
 * the other one hasn't, and behind it both answer alike, now, taken back step by step and back at their image.
 */
public final class RefusedTests {
    static final int LEAST = Integer.MIN_VALUE;
    static final int MOST = Integer.MAX_VALUE;
    static final String[] STATES = {"new", "some", "full", "the last night"};

    public static void main(String[] args) throws Exception {
        for (int state = 0; state < STATES.length; state++) {
            for (Object[] call : others()) alike(state, call);
            for (Object[] call : asked()) alike(state, call);
        }
        refusedWhenNew();
        refusedWhenFull();
        refusedInTheLastNight();
        Due.finish("RefusedTests");
    }

    static Object[] row(Object... row) {
        return row;
    }

    /** {name, what it answers (null: whatever), arguments ..}: refused in every state. */
    static List<Object[]> others() {
        List<Object[]> rows = new ArrayList<>();
        for (int bad : new int[] {-1, 100, LEAST, MOST}) rows.add(row("person", -1, bad, 5));
        for (int bad : new int[] {-1, 11, LEAST, MOST}) rows.add(row("person", -1, 5, bad));
        for (int bad : new int[] {-1, 1024, LEAST, MOST}) rows.add(row("dispute", -1, bad));
        for (int bad : new int[] {-1, 301, LEAST, MOST}) rows.add(row("end", -1, bad));
        for (int bad : new int[] {-1, 2, LEAST, MOST}) rows.add(row("fault", -1, bad));
        for (int bad : new int[] {-2, 4, LEAST, MOST}) rows.add(row("by", false, bad));
        for (int bad : new int[] {-1, 8, LEAST, MOST}) {
            rows.add(row("argue", -1, bad, 0, 1));
            rows.add(row("loses", -100, bad, 0, 1));
            rows.add(row("fills", -100, bad, 0));
            rows.add(row("lamps", -1, bad));
            rows.add(row("spare", -1, bad));
        }
        for (int bad : new int[] {-1, 4, LEAST, MOST}) {
            rows.add(row("argue", -1, 0, bad, 1));
            rows.add(row("argue", -1, 0, 0, bad));
            rows.add(row("pour", false, bad, 1));
            rows.add(row("of", -2, bad, 0));
            rows.add(row("loses", -100, 0, bad, 1));
            rows.add(row("fills", -100, 0, bad));
            rows.add(row("played", -2, bad));
            rows.add(row("war", -1L, bad, 1, 1, false));
            rows.add(row("rest", -1L, 0, bad, 1, true));
            rows.add(row("said", -2, 0, bad, 0));
        }
        rows.add(row("argue", -1, 0, 1, 1));
        for (int bad : new int[] {0, 100, -100, LEAST, MOST}) rows.add(row("pour", false, 0, bad));
        for (int bad : new int[] {-1, 10, 32, LEAST, MOST}) {
            rows.add(row("snuff", false, bad));
            rows.add(row("lit", -1L, 1, bad, false));
        }
        for (int bad : new int[] {0, -1, 61, LEAST, MOST}) {
            rows.add(row("night", -1, bad));
            rows.add(row("foretold", -1, bad, 0));
        }
        for (int bad : new int[] {-1, 10000, LEAST, MOST}) rows.add(row("years", -1, bad, 5));
        for (int bad : new int[] {0, 41, LEAST, MOST}) rows.add(row("years", -1, 5, bad));
        for (int bad : new int[] {-2, 25, LEAST, MOST}) rows.add(row("book", -2, bad, 0));
        for (int bad : new int[] {0, -2, 1024, LEAST, MOST}) rows.add(row("street", -2, bad));
        for (int bad : new int[] {-2, 4, LEAST, MOST}) rows.add(row("verdict", -2, bad, true));
        for (int bad : new int[] {-2, 8, LEAST, MOST}) rows.add(row("said", -2, bad, 0, 0));
        for (int bad : new int[] {-1, 10, LEAST, MOST}) rows.add(row("said", -2, 0, 0, bad));
        for (int bad : new int[] {-1, 7, LEAST, MOST}) {
            rows.add(row("dark", -1L, bad, true));
            rows.add(row("mean", -1L, bad, false));
        }
        for (int bad : new int[] {-1, 256, LEAST, MOST}) rows.add(row("bill", -2, bad, -1));
        for (int bad : new int[] {-2, 9, LEAST, MOST}) rows.add(row("ledger", -2, bad));
        for (int bad : new int[] {-1, 9, LEAST, MOST}) {
            rows.add(row("about", -2, bad));
            rows.add(row("is", -2, bad));
            rows.add(row("whodid", -1, bad, true));
        }
        return rows;
    }

    /** Asked with arguments that may be answered. */
    static List<Object[]> asked() {
        List<Object[]> rows = new ArrayList<>();
        for (int i = 0; i < 9; i++) rows.add(row("about", null, i));
        for (int i = 0; i < 5; i++) rows.add(row("is", null, i));
        for (int i = 0; i < 3; i++) rows.add(row("of", null, 1, i));
        for (int i = 0; i < 3; i++) rows.add(row("reach", null, i));
        for (int i = 0; i < 4; i++) rows.add(row("book", null, 0, i));
        for (int n : new int[] {1, 2, 60}) for (int what = 0; what < 2; what++) rows.add(row("foretold", null, n, what));
        for (boolean low : new boolean[] {false, true}) {
            rows.add(row("bring", null, 6, low));
            rows.add(row("lights", null, low));
            rows.add(row("war", null, 0, 1, 4, low));
            rows.add(row("rest", null, 0, 1, 4, low));
            rows.add(row("belief", null, low));
            rows.add(row("lit", null, 6, 9, low));
            rows.add(row("dark", null, 6, low));
            rows.add(row("mean", null, 6, low));
            rows.add(row("game", null, low));
            rows.add(row("whodid", null, 1, low));
            rows.add(row("stretch", null, low));
            rows.add(row("blaze", null, low));
        }
        for (String name : "rank weight basis stretches whose surest poorest solvent fool".split(" ")) rows.add(row(name, null));
        for (String name : "lamps ways pattern kernel spare nearest ledger fault".split(" ")) rows.add(row(name, null, 0));
        rows.add(row("kernel", null, -1));
        rows.add(row("book", null, -1, 0));
        rows.add(row("ledger", null, -1));
        rows.add(row("loses", null, 0, 1, 0));
        rows.add(row("fills", null, 0, 1));
        rows.add(row("bill", null, 255, -1));
        rows.add(row("bill", null, 3, 1));
        return rows;
    }

    static void refusedWhenNew() throws Exception {
        Object[][] rows = {{"argue", -1, 0, 0, 1}, {"pour", false, 0, 1}, {"snuff", false, 0}, {"undo", -1}, {"by", false, 0}, {"played", -2, 0},
            {"end", -1, 1}, {"fault", -1, 0}, {"of", -2, 0, 0}, {"lamps", -1, 0}, {"loses", -100, 0, 0, 1}, {"fills", -100, 0, 0},
            {"book", -2, 0, 0}, {"kernel", -2, 0}, {"spare", -1, 0}, {"bill", -2, 1, -1}, {"bill", -2, 0, 0}, {"war", -1L, 0, 1, 1, false},
            {"verdict", -2, 0, true}, {"said", -2, 0, 0, 0}, {"ledger", -2, 0}};
        for (Object[] call : rows) alike(0, call);
    }

    static void refusedWhenFull() throws Exception {
        Object[][] rows = {{"person", -1, 5, 5}, {"dispute", -1, 5}, {"text", -1}, {"feed", -1, 1, 2, 3, 4, 5}, {"street", -2, 1},
            {"verdict", -2, 0, true}, {"said", -2, 0, 0, 0}, {"end", -1, 301}, {"pour", false, 0, 99}, {"pour", false, 0, -99}};
        for (Object[] call : rows) alike(2, call);
    }

    static void refusedInTheLastNight() throws Exception {
        for (int n : new int[] {1, 2, 60}) alike(3, row("night", -1, n));
        alike(3, row("foretold", null, 60, 0));
    }

    static LitByLosers in(int state) {
        LitByLosers x = new LitByLosers();
        if (state == 0) return x;
        int people = state == 2 ? 4 : 2;
        int disputes = state == 2 ? 8 : 3;
        for (int i = 0; i < people; i++) x.person(i == 0 ? 50 : 30 + i, 2 * i + 1);
        for (int i = 0; i < disputes; i++) x.dispute(3 << i);
        for (int i = 0; i < (state == 2 ? 4 : 1); i++) Due.text(x, "loses slip+lit/4+" + i + ";fills size+1-who;snuff 9;");
        x.by(0);
        if (state == 3) for (int i = 0; i < 166; i++) x.night(60);
        if (state == 3) x.night(38);
        x.argue(0, 0, 1);
        x.image();
        for (int i = 0; i < (state == 2 ? 6 : 2); i++) x.street(7 << i);
        for (int i = 0; i < (state == 2 ? 8 : 2); i++) x.verdict(i % 2, i % 3 == 0);
        for (int i = 0; i < (state == 2 ? 8 : 2); i++) x.said(i % 3, i % 2, 3 - i % 2);
        x.night(state == 2 ? 40 : 1);
        x.argue(1, 1, 0);
        x.pour(0, 3);
        for (int i = 0; i < (state == 2 ? 15 : 1); i++) x.feed(0x6C6F7365, 0x7320313B, 0x20202020, 0x20202020, 0x20202020);
        return x;
    }

    /** What the calls that only ask answer. */
    static List<Long> seen(LitByLosers x) {
        List<Long> row = new ArrayList<>();
        for (int i = 0; i < 9; i++) row.add((long) x.about(i));
        for (int i = 0; i < 5; i++) row.add((long) x.is(i));
        for (int p = 0; p < 4; p++) for (int i = 0; i < 3; i++) row.add((long) x.of(p, i));
        for (int d = 0; d < 8; d++) row.add((long) x.lamps(d));
        for (int i = 0; i < 2; i++) row.add((long) x.fault(i));
        for (int i : new int[] {-1, 0, 1, 24}) for (int what = 0; what < 4; what++) row.add((long) x.book(i, what));
        for (int p = 0; p < 2; p++) row.add((long) x.loses(0, p, 1 - p));
        for (int p = 0; p < 2; p++) row.add((long) x.fills(2, p));
        for (int i = 0; i < 2; i++) row.add((long) x.foretold(3, i));
        row.add((long) x.rank());
        row.add((long) x.lights(false));
        row.add((long) x.bill(7, -1));
        row.add(x.belief(false));
        row.add(x.belief(true));
        row.add((long) x.whodid(1, false));
        row.add((long) x.whose());
        row.add((long) x.ledger(0));
        return row;
    }

    static void same(String when, List<Long> got, List<Long> want) {
        for (int i = 0; i < want.size(); i++) Due.due(when + ", row " + i, got.get(i), want.get(i));
    }

    static void alike(int state, Object[] call) throws Exception {
        LitByLosers x = in(state);
        LitByLosers y = in(state);
        String told = call[0] + Arrays.toString(Arrays.copyOfRange(call, 2, call.length)) + " when " + STATES[state];
        Object got = method((String) call[0]).invoke(x, Arrays.copyOfRange(call, 2, call.length));
        if (call[1] != null && !call[1].equals(got)) Due.due(told + " answered " + got + ", not " + call[1], 1, 0);
        same("behind " + told, seen(x), seen(y));
        for (int i = 0; i < 3; i++) Due.due("undo behind " + told, x.undo(), y.undo());
        Due.due("X taken back behind " + told, x.is(1), y.is(1));
        Due.due("text behind " + told, x.text(), y.text());
        x.back();
        y.back();
        same("back behind " + told, seen(x), seen(y));
    }

    static Method method(String name) {
        for (Method m : LitByLosers.class.getMethods()) if (m.getName().equals(name)) return m;
        throw new IllegalArgumentException(name);
    }
}
