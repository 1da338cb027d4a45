import java.math.BigInteger;
import java.util.ArrayList;
import java.util.Arrays;
import java.util.Comparator;
import java.util.HashMap;
import java.util.HashSet;
import java.util.List;
import java.util.Map;
import java.util.Set;
import java.util.TreeSet;

/**
 * The document once more, in the plainest way and without regard for speed or the language rules:
 * whole copies of the world for every step, sets of disputes as lists, laws as trees of functions.
 * It has the same calls as LitByLosers; AgainstModelTests compares the two.
 */
public final class Model {
    static final int NONE = -1;

    static final class Man {
        int oil, slip, wrong;
        final int toldOil;

        Man(int oil, int slip) {
            this.oil = oil;
            this.slip = slip;
            toldOil = oil;
        }

        Man copy() {
            Man m = new Man(toldOil, slip);
            m.oil = oil;
            m.wrong = wrong;
            return m;
        }
    }

    /** What steps change. */
    static final class Play {
        boolean[] lit = new boolean[10];
        List<Man> men = new ArrayList<>();
        int burnt, night, x = 367;
        List<int[]> book = new ArrayList<>();

        Play copy() {
            Play p = new Play();
            p.lit = lit.clone();
            for (Man m : men) p.men.add(m.copy());
            p.burnt = burnt;
            p.night = night;
            p.x = x;
            p.book = new ArrayList<>(book);
            return p;
        }

        int bits() {
            int b = 0;
            for (int i = 0; i < 10; i++) if (lit[i]) b += 1 << i;
            return b;
        }

        int draw(int by) {
            int d = x % by;
            x = (int) ((x * 617L + 491) % 30869);
            return d;
        }
    }

    static final class World {
        Play play = new Play();
        List<Integer> disputes = new ArrayList<>();
        List<ModelText> texts = new ArrayList<>();
        ModelText rules;
        List<Play> steps = new ArrayList<>();
        List<Integer> streets = new ArrayList<>();
        List<int[]> verdicts = new ArrayList<>();
        List<int[]> said = new ArrayList<>();

        World copy() {
            World w = new World();
            w.play = play.copy();
            w.disputes = new ArrayList<>(disputes);
            w.texts = new ArrayList<>(texts);
            w.rules = rules;
            for (Play p : steps) w.steps.add(p.copy());
            w.streets = new ArrayList<>(streets);
            w.verdicts = new ArrayList<>(verdicts);
            w.said = new ArrayList<>(said);
            return w;
        }
    }

    World w = new World();
    World image = new World();
    List<Integer> tape = new ArrayList<>();
    int[] latestFault;

    // ---- telling ----

    public int person(int oil, int slip) {
        if (oil < 0 || oil > 99 || slip < 0 || slip > 10 || w.play.men.size() == 4) return NONE;
        w.play.men.add(new Man(oil, slip));
        return w.play.men.size() - 1;
    }

    public int dispute(int lamps) {
        if (lamps < 0 || lamps > 1023 || w.disputes.size() == 8) return NONE;
        w.disputes.add(lamps);
        return w.disputes.size() - 1;
    }

    public int feed(int a, int b, int c, int d, int e) {
        if (tape.size() > 280) return NONE;
        for (int v : new int[] {a, b, c, d, e}) {
            for (byte by : java.nio.ByteBuffer.allocate(4).putInt(v).array()) tape.add(by & 0xff);
        }
        return tape.size();
    }

    public int end(int n) {
        if (n < 0 || n > tape.size()) return NONE;
        tape = new ArrayList<>(tape.subList(0, n));
        return n;
    }

    public int text() {
        if (w.texts.size() == 4) return NONE;
        int[] bytes = tape.stream().mapToInt(i -> i).toArray();
        tape.clear();
        ModelText t = new ModelText();
        latestFault = t.read(bytes);
        if (latestFault[0] != 0) return NONE;
        w.texts.add(t);
        return w.texts.size() - 1;
    }

    public int fault(int what) {
        if (latestFault == null || what < 0 || what > 1) return NONE;
        return latestFault[what];
    }

    public boolean by(int text) {
        if (text == NONE) {
            w.rules = null;
            return true;
        }
        if (text < 0 || text >= w.texts.size()) return false;
        w.rules = w.texts.get(text);
        return true;
    }

    // ---- doing ----

    boolean man(int p) {
        return p >= 0 && p < w.play.men.size();
    }

    boolean quarrel(int d) {
        return d >= 0 && d < w.disputes.size();
    }

    void step() {
        w.steps.add(w.play.copy());
        if (w.steps.size() > 30) w.steps.remove(0);
    }

    Map<String, Integer> common(Play p, int d, int man) {
        Map<String, Integer> m = new HashMap<>();
        m.put("night", p.night);
        m.put("lit", Integer.bitCount(p.bits()));
        m.put("number", d);
        m.put("size", Integer.bitCount(w.disputes.get(d)));
        m.put("oil", p.men.get(man).oil);
        m.put("slip", p.men.get(man).slip);
        m.put("wrong", p.men.get(man).wrong);
        return m;
    }

    int lawLoses(Play p, int d, int a, int b) {
        if (w.rules == null || w.rules.loses == null) return p.men.get(a).slip;
        Map<String, Integer> m = common(p, d, a);
        m.put("other", p.men.get(b).slip);
        m.put("against", p.men.get(b).oil);
        return Math.max(0, Math.min(10, w.rules.loses.of(m, p.lit)));
    }

    int lawFills(ModelText t, Play p, int d, int man) {
        if (t == null || t.fills == null) return Math.min(9, Integer.bitCount(w.disputes.get(d)));
        Map<String, Integer> m = common(p, d, man);
        m.put("who", man);
        return Math.max(0, Math.min(9, t.fills.of(m, p.lit)));
    }

    /** {who loses, what is burnt} */
    int[] argued(Play p, int d, int a, int b) {
        int odds = lawLoses(p, d, a, b);
        int loser = p.draw(10) < odds ? a : b;
        int pay = lawFills(w.rules, p, d, loser);
        Man m = p.men.get(loser);
        if (pay > m.oil) pay = m.oil;
        m.oil -= pay;
        if (m.wrong < 9999) m.wrong++;
        for (int i = 0; i < 10; i++) if ((w.disputes.get(d) & 1 << i) != 0) p.lit[i] = !p.lit[i];
        p.book.add(new int[] {p.night, d, loser, p.bits()});
        if (p.book.size() > 25) p.book.remove(0);
        return new int[] {loser, pay};
    }

    int pass(Play p) {
        int burnt = 0;
        if (!w.disputes.isEmpty() && p.men.size() >= 2) {
            int d = p.draw(w.disputes.size());
            int a = p.draw(p.men.size());
            List<Integer> others = new ArrayList<>();
            for (int i = 0; i < p.men.size(); i++) if (i != a) others.add(i);
            int b = others.get(p.draw(others.size()));
            burnt = argued(p, d, a, b)[1];
        }
        p.lit[p.draw(10)] = false;
        p.burnt = burnt;
        p.night++;
        return burnt;
    }

    public int argue(int d, int a, int b) {
        if (!quarrel(d) || !man(a) || !man(b) || a == b) return NONE;
        step();
        return argued(w.play, d, a, b)[0];
    }

    public boolean pour(int person, int oil) {
        if (!man(person) || oil == 0 || oil > 99 || oil < -99) return false;
        int sum = w.play.men.get(person).oil + oil;
        if (sum < 0 || sum > 99) return false;
        step();
        w.play.men.get(person).oil = sum;
        return true;
    }

    public boolean snuff(int lamp) {
        if (lamp < 0 || lamp > 9 || !w.play.lit[lamp]) return false;
        step();
        w.play.lit[lamp] = false;
        return true;
    }

    public int night(int n) {
        if (n < 1 || n > 60 || w.play.night + n > 9999) return NONE;
        int burnt = 0;
        for (int i = 0; i < n; i++) {
            step();
            burnt += pass(w.play);
        }
        return burnt;
    }

    public int played(int text) {
        if (text < 0 || text >= w.texts.size()) return -2;
        List<int[]> clauses = w.texts.get(text).clauses;
        for (int i = 0; i < clauses.size(); i++) {
            int[] c = clauses.get(i);
            boolean did = true;
            switch (c[0]) {
                case 'p' -> did = person(c[1], c[2]) != NONE;
                case 't' -> {
                    Set<Integer> turned = new TreeSet<>();
                    for (int k = 0; k <= c[2]; k++) turned.add((c[1] + k) % 10);
                    int bits = 0;
                    for (int lamp : turned) bits += 1 << lamp;
                    did = dispute(bits) != NONE;
                }
                case 'a' -> did = argue(c[1], c[2], c[3]) != NONE;
                case 'o' -> did = pour(c[2], c[1]);
                case 's' -> did = snuff(c[1]);
                case 'n' -> {
                    for (int k = 0; k < c[1]; k++) did &= night(1) != NONE;
                }
                default -> { }
            }
            if (!did) return i;
        }
        return NONE;
    }

    public int years(int seed, int n) {
        if (seed < 0 || seed > 9999 || n < 1 || n > 40) return NONE;
        step();
        Play p = w.play;
        p.x = seed * 2 + 367;
        int men = p.men.size();
        int quarrels = w.disputes.size();
        for (int i = 0; i < n; i++) {
            int x = p.x;
            p.draw(2);
            int kind = x % 6;
            int y = x / 6;
            if (kind <= 1 && men > 0 && quarrels > 0 && x % men != y % men) {
                argued(p, y % quarrels, x % men, y % men);
            } else if (kind == 2) {
                p.lit[y % 10] = false;
            } else if (kind == 3 && men > 0 && p.men.get(x % men).oil + 1 + y % 5 <= 99) {
                p.men.get(x % men).oil += 1 + y % 5;
            } else if (kind >= 4 && p.night < 9999) {
                pass(p);
            }
        }
        return p.night;
    }

    public int undo() {
        if (w.steps.isEmpty()) return NONE;
        Play ahead = w.steps.remove(w.steps.size() - 1);
        for (int i = ahead.men.size(); i < w.play.men.size(); i++) {
            ahead.men.add(new Man(w.play.men.get(i).toldOil, w.play.men.get(i).slip));
        }
        w.play = ahead;
        return w.steps.size();
    }

    // ---- what is ----

    public int of(int person, int what) {
        if (!man(person) || what < 0 || what > 2) return -2;
        Man m = w.play.men.get(person);
        return new int[] {m.oil, m.slip, m.wrong}[what];
    }

    public int lamps(int d) {
        return quarrel(d) ? w.disputes.get(d) : NONE;
    }

    int oilOf(Play p) {
        return p.men.stream().mapToInt(m -> m.oil).sum();
    }

    public int is(int what) {
        if (what < 0 || what > 4) return -2;
        Play p = w.play;
        return new int[] {p.night, p.x, p.bits(), oilOf(p), p.burnt}[what];
    }

    public int loses(int d, int a, int b) {
        return quarrel(d) && man(a) && man(b) && a != b ? lawLoses(w.play, d, a, b) : -100;
    }

    public int fills(int d, int p) {
        return quarrel(d) && man(p) ? lawFills(w.rules, w.play, d, p) : -100;
    }

    public int book(int i, int what) {
        if (i == NONE) return w.play.book.size();
        if (i < 0 || i >= w.play.book.size() || what < 0 || what > 3) return -2;
        return w.play.book.get(i)[what];
    }

    public int foretold(int n, int what) {
        if (n < 1 || n > 60 || what < 0 || what > 1) return NONE;
        Play p = w.play.copy();
        for (int i = 0; i < n; i++) if (p.night < 9999) pass(p);
        return what == 0 ? p.bits() : oilOf(p);
    }

    // ---- patterns ----

    int sets() {
        return 1 << w.disputes.size();
    }

    int turnedBy(int set) {
        int[] odd = new int[10];
        for (int d = 0; d < w.disputes.size(); d++) {
            if ((set & 1 << d) == 0) continue;
            for (int i = 0; i < 10; i++) odd[i] += w.disputes.get(d) >> i & 1;
        }
        int bits = 0;
        for (int i = 0; i < 10; i++) if (odd[i] % 2 == 1) bits += 1 << i;
        return bits;
    }

    Set<Integer> patterns() {
        Set<Integer> found = new TreeSet<>();
        for (int s = 0; s < sets(); s++) found.add(w.play.bits() ^ turnedBy(s));
        return found;
    }

    List<Integer> setsFor(int lamps) {
        List<Integer> found = new ArrayList<>();
        for (int s = 0; s < sets(); s++) if ((w.play.bits() ^ turnedBy(s)) == lamps) found.add(s);
        found.sort(Comparator.<Integer>comparingInt(Integer::bitCount).thenComparing(Comparator.naturalOrder()));
        return found;
    }

    public int rank() {
        List<Integer> rows = new ArrayList<>(w.disputes);
        int rank = 0;
        for (int lamp = 0; lamp < 10; lamp++) {
            int bit = 1 << lamp;
            int pivot = -1;
            for (int r = rank; r < rows.size(); r++) if ((rows.get(r) & bit) != 0) pivot = r;
            if (pivot < 0) continue;
            int row = rows.get(pivot);
            rows.set(pivot, rows.get(rank));
            rows.set(rank, row);
            for (int r = 0; r < rows.size(); r++) if (r != rank && (rows.get(r) & bit) != 0) rows.set(r, rows.get(r) ^ row);
            rank++;
        }
        return rank;
    }

    static boolean pattern10(int lamps) {
        return lamps >= 0 && lamps < 1024;
    }

    public int bring(int lamps, boolean many) {
        if (!pattern10(lamps)) return NONE;
        List<Integer> found = setsFor(lamps);
        if (found.isEmpty()) return NONE;
        return many ? Integer.bitCount(found.get(0)) : found.get(0);
    }

    public int ways(int lamps) {
        return pattern10(lamps) ? setsFor(lamps).size() : NONE;
    }

    public int weight() {
        int least = 99;
        for (int s = 0; s < sets(); s++) if (turnedBy(s) != 0) least = Math.min(least, Integer.bitCount(turnedBy(s)));
        return least == 99 ? NONE : least;
    }

    public int reach(int what) {
        Set<Integer> all = patterns();
        return switch (what) {
            case 0 -> all.size();
            case 1 -> all.stream().mapToInt(Integer::bitCount).min().getAsInt();
            case 2 -> all.stream().mapToInt(Integer::bitCount).max().getAsInt();
            default -> NONE;
        };
    }

    public int pattern(int lit) {
        for (int p : patterns()) if (Integer.bitCount(p) == lit) return p;
        return NONE;
    }

    public int kernel(int i) {
        List<Integer> found = new ArrayList<>();
        for (int s = 1; s < sets(); s++) if (turnedBy(s) == 0) found.add(s);
        if (i == NONE) return found.size();
        return i >= 0 && i < found.size() ? found.get(i) : -2;
    }

    boolean madeOf(List<Integer> rows, int lamps) {
        Set<Integer> span = new HashSet<>(Set.of(0));
        for (int r : rows) for (int s : new ArrayList<>(span)) span.add(s ^ r);
        return span.contains(lamps);
    }

    public int basis() {
        List<Integer> taken = new ArrayList<>();
        int bits = 0;
        for (int d = 0; d < w.disputes.size(); d++) {
            if (madeOf(taken, w.disputes.get(d))) continue;
            taken.add(w.disputes.get(d));
            bits += 1 << d;
        }
        return bits;
    }

    public int spare(int d) {
        if (!quarrel(d)) return NONE;
        List<Integer> others = new ArrayList<>(w.disputes);
        others.remove(d);
        return madeOf(others, w.disputes.get(d)) ? 1 : 0;
    }

    public int nearest(int lamps) {
        if (!pattern10(lamps)) return NONE;
        int best = -1;
        for (int p : patterns()) if (best < 0 || Integer.bitCount(p ^ lamps) < Integer.bitCount(best ^ lamps)) best = p;
        return best;
    }

    public int street(int lamps) {
        if (lamps == NONE) w.streets.clear();
        else if (lamps < 1 || lamps > 1023 || w.streets.size() == 6) return -2;
        else w.streets.add(lamps);
        return w.streets.size();
    }

    public int lights(boolean many) {
        int best = -1;
        for (int size = 0; size <= 8 && best < 0; size++) {
            for (int s = sets() - 1; s >= 0; s--) {
                int lit = w.play.bits() ^ turnedBy(s);
                if (Integer.bitCount(s) == size && w.streets.stream().allMatch(t -> (t & lit) != 0)) best = s;
            }
        }
        return best < 0 ? NONE : many ? Integer.bitCount(best) : best;
    }

    int bestOil;
    int[] bestWay;

    void tryBill(List<Integer> asked, int at, int[] way, int[] paid) {
        if (at == asked.size()) {
            int oil = Arrays.stream(paid).sum();
            if (oil < bestOil) {
                bestOil = oil;
                bestWay = way.clone();
            }
            return;
        }
        for (int p = 0; p < w.play.men.size(); p++) {
            int price = lawFills(w.rules, w.play, asked.get(at), p);
            if (paid[p] + price > w.play.men.get(p).oil) continue;
            paid[p] += price;
            way[asked.get(at)] = p;
            tryBill(asked, at + 1, way, paid);
            way[asked.get(at)] = -2;
            paid[p] -= price;
        }
    }

    public int bill(int disputes, int what) {
        if (disputes < 0 || disputes >= sets()) return -2;
        List<Integer> asked = new ArrayList<>();
        for (int d = 0; d < 8; d++) if ((disputes & 1 << d) != 0) asked.add(d);
        if (what != NONE && !asked.contains(what)) return -2;
        bestOil = 1000;
        bestWay = null;
        int[] way = new int[8];
        Arrays.fill(way, -2);
        tryBill(asked, 0, way, new int[4]);
        if (bestWay == null) return -2;
        return what == NONE ? bestOil : bestWay[what];
    }

    // ---- odds ----

    /** A fraction in lowest terms. */
    static final class Part {
        final BigInteger up;
        final BigInteger low;

        Part(BigInteger up, BigInteger low) {
            BigInteger g = up.gcd(low);
            this.up = up.divide(g);
            this.low = low.divide(g);
        }

        static Part of(long up, long low) {
            return new Part(BigInteger.valueOf(up), BigInteger.valueOf(low));
        }

        Part plus(Part o) {
            return new Part(up.multiply(o.low).add(o.up.multiply(low)), low.multiply(o.low));
        }

        Part times(Part o) {
            return new Part(up.multiply(o.up), low.multiply(o.low));
        }

        long tell(boolean lower) {
            return (lower ? low : up).longValueExact();
        }
    }

    Part gives(int p) {
        return Part.of(w.play.men.get(p).slip, 10);
    }

    Part stays(int p) {
        return Part.of(10 - w.play.men.get(p).slip, 10);
    }

    public long war(int a, int b, int n, boolean low) {
        if (!man(a) || !man(b) || a == b || n < 0 || n > 4) return NONE;
        Part won = Part.of(0, 1);
        Part on = Part.of(1, 1);
        for (int i = 0; i < n; i++) {
            won = won.plus(on.times(stays(a)).times(gives(b)));
            on = on.times(stays(a)).times(stays(b));
        }
        return won.tell(low);
    }

    public long rest(int a, int b, int n, boolean low) {
        if (!man(a) || !man(b) || a == b || n < 0 || n > 4) return NONE;
        Part on = Part.of(1, 1);
        for (int i = 0; i < n; i++) on = on.times(stays(a)).times(stays(b));
        return on.tell(low);
    }

    public int verdict(int person, boolean so) {
        if (person == NONE) w.verdicts.clear();
        else if (!man(person) || w.verdicts.size() == 8) return -2;
        else w.verdicts.add(new int[] {person, so ? 1 : 0});
        return w.verdicts.size();
    }

    public long belief(boolean low) {
        Part yes = Part.of(1, 2);
        Part no = Part.of(1, 2);
        for (int[] v : w.verdicts) {
            yes = yes.times(v[1] == 1 ? stays(v[0]) : gives(v[0]));
            no = no.times(v[1] == 1 ? gives(v[0]) : stays(v[0]));
        }
        Part all = yes.plus(no);
        if (all.up.signum() == 0) return NONE;
        return yes.times(new Part(all.low, all.up)).tell(low);
    }

    Map<Integer, Part> walk(int n) {
        Map<Integer, Part> at = new HashMap<>();
        at.put(w.play.bits(), Part.of(1, 1));
        for (int i = 0; i < n && !w.disputes.isEmpty(); i++) {
            Map<Integer, Part> next = new HashMap<>();
            for (Map.Entry<Integer, Part> e : at.entrySet()) {
                for (int d : w.disputes) {
                    next.merge(e.getKey() ^ d, e.getValue().times(Part.of(1, w.disputes.size())), Part::plus);
                }
            }
            at = next;
        }
        return at;
    }

    public long lit(int n, int lamp, boolean low) {
        if (n < 0 || n > 6 || lamp < 0 || lamp > 9) return NONE;
        Part sum = Part.of(0, 1);
        for (Map.Entry<Integer, Part> e : walk(n).entrySet()) if ((e.getKey() & 1 << lamp) != 0) sum = sum.plus(e.getValue());
        return sum.tell(low);
    }

    public long dark(int n, boolean low) {
        if (n < 0 || n > 6) return NONE;
        return walk(n).getOrDefault(0, Part.of(0, 1)).tell(low);
    }

    public long mean(int n, boolean low) {
        if (n < 0 || n > 6) return NONE;
        Part sum = Part.of(0, 1);
        for (Map.Entry<Integer, Part> e : walk(n).entrySet()) {
            sum = sum.plus(e.getValue().times(Part.of(Integer.bitCount(e.getKey()), 1)));
        }
        return sum.tell(low);
    }

    // ---- games and guesses ----

    int best(List<Integer> said, int lit) {
        int all = w.disputes.size();
        if (said.size() >= all - said.size()) return Integer.bitCount(lit);
        List<Integer> ends = new ArrayList<>();
        for (int d = 0; d < all; d++) {
            if (said.contains(d)) continue;
            List<Integer> more = new ArrayList<>(said);
            more.add(d);
            ends.add(best(more, lit ^ w.disputes.get(d)));
        }
        return ends.stream().mapToInt(i -> said.size() % 2 == 0 ? i : -i).max().getAsInt() * (said.size() % 2 == 0 ? 1 : -1);
    }

    public int game(boolean who) {
        int worth = best(List.of(), w.play.bits());
        if (!who) return worth;
        for (int d = 0; d < w.disputes.size(); d++) {
            if (best(List.of(d), w.play.bits() ^ w.disputes.get(d)) == worth) return d;
        }
        return NONE;
    }

    public int whodid(int n, boolean first) {
        if (n < 0 || n > 8) return NONE;
        List<Integer> found = new ArrayList<>();
        for (int s = 0; s < sets(); s++) {
            if (Integer.bitCount(s) == n && turnedBy(s) == (w.play.bits() ^ image.play.bits())) found.add(s);
        }
        if (!first) return found.size();
        return found.isEmpty() ? NONE : found.get(0);
    }

    public int stretches() {
        int ends = 0;
        for (int i = 0; i < 10; i++) if (w.play.lit[i] && !w.play.lit[(i + 1) % 10]) ends++;
        return w.play.bits() == 1023 ? 1 : ends;
    }

    public int stretch(boolean lit) {
        int most = 0;
        for (int from = 0; from < 10; from++) {
            int length = 0;
            while (length < 10 && w.play.lit[(from + length) % 10] == lit) length++;
            most = Math.max(most, length);
        }
        return most;
    }

    public int said(int d, int p, int fills) {
        if (d == NONE) w.said.clear();
        else if (!quarrel(d) || !man(p) || fills < 0 || fills > 9 || w.said.size() == 8) return -2;
        else w.said.add(new int[] {d, p, fills});
        return w.said.size();
    }

    public int whose() {
        int bits = 0;
        for (int t = 0; t < w.texts.size(); t++) {
            ModelText text = w.texts.get(t);
            if (w.said.stream().allMatch(s -> lawFills(text, w.play, s[0], s[1]) == s[2])) bits += 1 << t;
        }
        return bits;
    }

    public int blaze(boolean most) {
        int best = NONE;
        for (int d = w.disputes.size() - 1; d >= 0; d--) {
            int lit = Integer.bitCount(w.play.bits() ^ w.disputes.get(d));
            int had = best < 0 ? lit : Integer.bitCount(w.play.bits() ^ w.disputes.get(best));
            if (most ? lit >= had : lit <= had) best = d;
        }
        return best;
    }

    public int surest() {
        int best = NONE;
        for (int p = w.play.men.size() - 1; p >= 0; p--) {
            if (best < 0 || w.play.men.get(p).slip <= w.play.men.get(best).slip) best = p;
        }
        return best;
    }

    public int poorest() {
        int best = NONE;
        for (int p = w.play.men.size() - 1; p >= 0; p--) {
            if (best < 0 || w.play.men.get(p).oil <= w.play.men.get(best).oil) best = p;
        }
        return best;
    }

    public int solvent() {
        int bits = 0;
        for (int p = 0; p < w.play.men.size(); p++) {
            int dearest = 0;
            for (int d = 0; d < w.disputes.size(); d++) dearest = Math.max(dearest, lawFills(w.rules, w.play, d, p));
            if (w.play.men.get(p).oil >= dearest) bits += 1 << p;
        }
        return bits;
    }

    public int fool() {
        int best = NONE;
        for (int p = w.play.men.size() - 1; p >= 0; p--) {
            int wrong = w.play.men.get(p).wrong;
            if (wrong > 0 && (best < 0 || wrong >= w.play.men.get(best).wrong)) best = p;
        }
        return best;
    }

    public int ledger(int person) {
        if (person != NONE && !man(person)) return -2;
        return (int) w.play.book.stream().filter(l -> person == NONE || l[2] == person).count();
    }

    public int image() {
        image = w.copy();
        return w.play.night;
    }

    public int back() {
        w = image.copy();
        return w.play.night;
    }

    public int about(int what) {
        return switch (what) {
            case 0 -> w.play.men.size();
            case 1 -> w.disputes.size();
            case 2 -> w.texts.size();
            case 3 -> w.rules == null ? NONE : w.texts.indexOf(w.rules);
            case 4 -> w.steps.size();
            case 5 -> w.streets.size();
            case 6 -> w.verdicts.size();
            case 7 -> w.said.size();
            case 8 -> tape.size();
            default -> -2;
        };
    }
}
