/**
 * Ten lamps around a square, people with oil, disputes whose losers pay: the
 * document (../shared/DOC.md) says by numbered promises what each call does.
 */
public final class LitByLosers {

    public static final int NONE = -1;

    private static final int NO_SUCH = -2;
    private static final int NO_LAW = -100;

    private static final int LAMP_COUNT = 10;
    private static final int ALL_LAMPS = (1 << LAMP_COUNT) - 1;
    private static final int MOST_PEOPLE = 4;
    private static final int MOST_DISPUTES = 8;
    private static final int DISPUTE_SETS = 1 << MOST_DISPUTES;
    private static final int MOST_OIL = 99;
    private static final int TENTHS = 10;
    private static final int MOST_FILLS = 9;
    private static final int MOST_WRONG = 9999;
    private static final int LAST_NIGHT = 9999;
    private static final int MOST_NIGHTS = 60;
    private static final int MOST_LINES = 25;
    private static final int MOST_STEPS = 30;
    private static final int MOST_STREETS = 6;
    private static final int MOST_TOLD = 8;
    private static final int MOST_SEED = 9999;
    private static final int MOST_YEARS = 40;
    private static final int MOST_WAR = 4;
    private static final int MOST_WALK = 6;
    private static final int FIRST_X = 367;

    private static final int MOST_TEXTS = 4;
    private static final int MOST_BYTES = 300;
    private static final int FEED_BYTES = 20;
    private static final int MOST_CLAUSES = 24;
    private static final int CLAUSE_NUMBERS = 3;
    private static final int MOST_OPEN = 8;
    private static final int MOST_NUMBER = 9999;
    private static final int MOST_VALUE = 1000000;
    /** Each byte is one TOKEN at most, and no TOKEN asks for more than two entries. */
    private static final int MOST_CODE = 2 * MOST_BYTES;
    /** Nine open levels leave six unfinished sides each at the most. */
    private static final int MOST_STACK = 64;

    /** The words of the language; a word's place here is its TOKEN: the names first, 0 to 9. */
    private static final String WORDS =
            "night slip lit number size oil wrong other against who loses fills person turns argue pour snuff by to around of lamp if then else end or and not ";
    private static final int NIGHT = 0;
    private static final int SLIP = 1;
    private static final int LIT = 2;
    private static final int NUMBER_OF = 3;
    private static final int SIZE = 4;
    private static final int OIL = 5;
    private static final int WRONG = 6;
    private static final int OTHER = 7;
    private static final int AGAINST = 8;
    private static final int WHO = 9;
    private static final int NAME_COUNT = 10;
    private static final int LOSES = 10;
    private static final int FILLS = 11;
    private static final int PERSON = 12;
    private static final int TURNS = 13;
    private static final int ARGUE = 14;
    private static final int POUR = 15;
    private static final int SNUFF = 16;
    private static final int BY = 17;
    private static final int TO = 18;
    private static final int AROUND = 19;
    private static final int OF = 20;
    private static final int LAMP = 21;
    private static final int IF = 22;
    private static final int THEN = 23;
    private static final int ELSE = 24;
    private static final int END = 25;
    private static final int OR = 26;
    private static final int AND = 27;
    private static final int NOT = 28;

    /** The other TOKENS: a number, the signs, the end of the tape, and what is no TOKEN. */
    private static final int NUMBER = 40;
    private static final int BELOW = 41;
    private static final int AT_MOST = 42;
    private static final int ABOVE = 43;
    private static final int AT_LEAST = 44;
    private static final int EQUAL = 45;
    private static final int UNLIKE = 46;
    private static final int PLUS = 47;
    private static final int MINUS = 48;
    private static final int TIMES = 49;
    private static final int OVER = 50;
    private static final int OPEN = 51;
    private static final int CLOSE = 52;
    private static final int STOP = 53;
    private static final int FINISH = 54;
    private static final int NO_TOKEN = 55;

    /** What compiled laws hold besides TOKENS. */
    private static final int NEGATE = 60;
    private static final int JUMP = 61;
    private static final int JUMP_UNLESS = 62;

    private static final int FAULT_STANDS = 1;
    private static final int FAULT_NUMBER = 2;
    private static final int FAULT_OPEN = 3;
    private static final int FAULT_TWICE = 4;
    private static final int FAULT_NAME = 5;
    private static final int FAULT_CLAUSES = 6;

    private static final int EUCLID_ROUNDS = 200;

    private final Town town = new Town();
    private final Town kept = new Town();
    private final Reader reader = new Reader();
    private final Sets sets = new Sets();
    private final Bill payers = new Bill();
    private final State before = new State();

    public LitByLosers() {
    }

    // ---- telling ----

    public int person(int oil, int slip) {
        return town.tellPerson(oil, slip);
    }

    public int dispute(int lamps) {
        return town.tellDispute(lamps);
    }

    public int feed(int a, int b, int c, int d, int e) {
        if (reader.size + FEED_BYTES > MOST_BYTES) {
            return NONE;
        }
        reader.append(a);
        reader.append(b);
        reader.append(c);
        reader.append(d);
        reader.append(e);
        return reader.size;
    }

    public int end(int n) {
        if (n < 0 || n > reader.size) {
            return NONE;
        }
        reader.size = n;
        return n;
    }

    public int text() {
        if (town.texts >= MOST_TEXTS) {
            return NONE;
        }
        boolean whole = reader.readTape();
        reader.size = 0;
        if (!whole) {
            return NONE;
        }
        town.scripts[town.texts].copy(reader.draft);
        town.texts++;
        return town.texts - 1;
    }

    public int fault(int what) {
        if (!reader.hasRead) {
            return NONE;
        }
        switch (what) {
            case 0: return reader.fault;
            case 1: return reader.place;
            default: return NONE;
        }
    }

    public boolean by(int text) {
        if (text != NONE && !town.hasText(text)) {
            return false;
        }
        town.ruling = text;
        return true;
    }

    // ---- doing ----

    public int argue(int dispute, int a, int b) {
        return town.argueByHand(dispute, a, b);
    }

    public boolean pour(int person, int oil) {
        return town.pourByHand(person, oil);
    }

    public boolean snuff(int lamp) {
        return town.snuffByHand(lamp);
    }

    public int night(int n) {
        if (n < 1 || n > MOST_NIGHTS || town.now.night + n > LAST_NIGHT) {
            return NONE;
        }
        int oil = town.now.oilOfAll();
        town.passNights(n, true);
        return oil - town.now.oilOfAll();
    }

    public int played(int text) {
        if (!town.hasText(text)) {
            return NO_SUCH;
        }
        Script script = town.scripts[text];
        for (int i = 0; i < script.clauses; i++) {
            if (!town.play(script, i)) {
                return i;
            }
        }
        return NONE;
    }

    public int years(int seed, int n) {
        if (seed < 0 || seed > MOST_SEED || n < 1 || n > MOST_YEARS) {
            return NONE;
        }
        town.beginStep();
        town.now.x = seed * 2 + FIRST_X;
        for (int i = 0; i < n; i++) {
            town.drawYear();
        }
        return town.now.night;
    }

    public int undo() {
        return town.takeBack();
    }

    // ---- what is ----

    public int of(int person, int what) {
        if (!town.hasPerson(person)) {
            return NO_SUCH;
        }
        switch (what) {
            case 0: return town.now.oil[person];
            case 1: return town.slips.at(person);
            case 2: return town.now.wrong[person];
            default: return NO_SUCH;
        }
    }

    public int lamps(int dispute) {
        return town.hasDispute(dispute) ? town.disputes.at(dispute) : NONE;
    }

    public int is(int what) {
        switch (what) {
            case 0: return town.now.night;
            case 1: return town.now.x;
            case 2: return town.now.lit;
            case 3: return town.now.oilOfAll();
            case 4: return town.now.burnt;
            default: return NO_SUCH;
        }
    }

    public int loses(int dispute, int a, int b) {
        return town.canArgue(dispute, a, b) ? town.oddsOf(dispute, a, b) : NO_LAW;
    }

    public int fills(int dispute, int person) {
        if (!town.hasDispute(dispute) || !town.hasPerson(person)) {
            return NO_LAW;
        }
        return town.fillsBy(town.ruling, dispute, person);
    }

    public int book(int i, int what) {
        if (i == NONE) {
            return town.now.lines;
        }
        return town.now.read(i, what);
    }

    public int foretold(int n, int what) {
        if (n < 1 || n > MOST_NIGHTS || what < 0 || what > 1) {
            return NONE;
        }
        before.copy(town.now);
        town.passNights(n, false);
        int answer = what == 0 ? town.now.lit : town.now.oilOfAll();
        town.now.copy(before);
        return answer;
    }

    // ---- which patterns ----

    public int rank() {
        return Integer.bitCount(setsNow().independent());
    }

    public int bring(int lamps, boolean many) {
        if (!areLamps(lamps)) {
            return NONE;
        }
        int set = setsNow().fewestFor(lamps ^ town.now.lit);
        return many ? sizeOf(set) : set;
    }

    public int ways(int lamps) {
        return areLamps(lamps) ? setsNow().howMany(lamps ^ town.now.lit) : NONE;
    }

    public int weight() {
        return setsNow().leastTurned();
    }

    public int reach(int what) {
        Sets all = setsNow();
        switch (what) {
            case 0: return 1 << Integer.bitCount(all.independent());
            case 1: return all.fewestLit(town.now.lit);
            case 2: return all.mostLit(town.now.lit);
            default: return NONE;
        }
    }

    public int pattern(int lit) {
        return setsNow().lowestWith(town.now.lit, lit);
    }

    public int kernel(int i) {
        Sets all = setsNow();
        return i == NONE ? all.howMany(0) - 1 : all.turningNothing(i);
    }

    public int basis() {
        return setsNow().independent();
    }

    public int spare(int dispute) {
        if (!town.hasDispute(dispute)) {
            return NONE;
        }
        return setsNow().isTurnedByOthers(dispute) ? 1 : 0;
    }

    public int nearest(int lamps) {
        return areLamps(lamps) ? setsNow().nearestTo(town.now.lit, lamps) : NONE;
    }

    // ---- streets and bills ----

    public int street(int lamps) {
        if (lamps == NONE) {
            town.streets.clear();
            return 0;
        }
        if (!areLamps(lamps) || lamps == 0) {
            return NO_SUCH;
        }
        return town.streets.add(lamps) ? town.streets.size : NO_SUCH;
    }

    public int lights(boolean many) {
        int set = setsNow().fewestLighting(town.now.lit, town.streets);
        return many ? sizeOf(set) : set;
    }

    public int bill(int disputes, int what) {
        if (disputes < 0 || disputes >= 1 << town.disputes.size) {
            return NO_SUCH;
        }
        if (what != NONE && (!town.hasDispute(what) || (disputes >> what & 1) == 0)) {
            return NO_SUCH;
        }
        if (!payers.solve(town, disputes)) {
            return NO_SUCH;
        }
        return what == NONE ? payers.oil() : payers.loserOf(what);
    }

    // ---- how likely ----

    public long war(int a, int b, int n, boolean low) {
        if (!town.hasTwo(a, b) || n < 0 || n > MOST_WAR) {
            return NONE;
        }
        long stay = (TENTHS - town.slips.at(a)) * (TENTHS - town.slips.at(b));
        long win = (TENTHS - town.slips.at(a)) * town.slips.at(b);
        long upper = 0;
        long lower = 1;
        for (int i = 0; i < n; i++) {
            upper = upper * TENTHS * TENTHS + win * power(stay, i);
            lower = lower * TENTHS * TENTHS;
        }
        return inLowest(upper, lower, low);
    }

    public long rest(int a, int b, int n, boolean low) {
        if (!town.hasTwo(a, b) || n < 0 || n > MOST_WAR) {
            return NONE;
        }
        long stay = (TENTHS - town.slips.at(a)) * (TENTHS - town.slips.at(b));
        return inLowest(power(stay, n), power(TENTHS * TENTHS, n), low);
    }

    public int verdict(int person, boolean so) {
        if (person == NONE) {
            town.verdicts.clear();
            return 0;
        }
        if (!town.hasPerson(person)) {
            return NO_SUCH;
        }
        return town.verdicts.add(person * 2 + (so ? 1 : 0)) ? town.verdicts.size : NO_SUCH;
    }

    public long belief(boolean low) {
        long ifSo = 1;
        long ifNot = 1;
        for (int i = 0; i < town.verdicts.size; i++) {
            int verdict = town.verdicts.at(i);
            int slip = town.slips.at(verdict / 2);
            boolean so = verdict % 2 == 1;
            ifSo *= so ? TENTHS - slip : slip;
            ifNot *= so ? slip : TENTHS - slip;
        }
        return ifSo + ifNot == 0 ? NONE : inLowest(ifSo, ifSo + ifNot, low);
    }

    public long lit(int n, int lamp, boolean low) {
        if (n < 0 || n > MOST_WALK || !isLamp(lamp)) {
            return NONE;
        }
        return inLowest(walked(n).litWalks(town.now.lit, 1 << lamp), sets.walks(n), low);
    }

    public long dark(int n, boolean low) {
        if (n < 0 || n > MOST_WALK) {
            return NONE;
        }
        return inLowest(walked(n).darkWalks(town.now.lit), sets.walks(n), low);
    }

    public long mean(int n, boolean low) {
        if (n < 0 || n > MOST_WALK) {
            return NONE;
        }
        return inLowest(walked(n).litWalks(town.now.lit, ALL_LAMPS), sets.walks(n), low);
    }

    // ---- games and guesses ----

    public int game(boolean who) {
        Sets all = setsNow();
        all.playOut(town.now.lit);
        return who ? all.firstSaid() : all.worth();
    }

    public int whodid(int n, boolean first) {
        if (n < 0 || n > MOST_DISPUTES) {
            return NONE;
        }
        int turned = town.now.lit ^ kept.now.lit;
        return first ? setsNow().lowestOf(n, turned) : setsNow().howManyOf(n, turned);
    }

    public int stretches() {
        int lit = town.now.lit;
        if (lit == ALL_LAMPS) {
            return 1;
        }
        int ahead = lit << 1 | lit >> (LAMP_COUNT - 1);
        return Integer.bitCount(lit & ~ahead);
    }

    public int stretch(boolean lit) {
        int wanted = lit ? town.now.lit : ALL_LAMPS & ~town.now.lit;
        int most = 0;
        int run = 0;
        // twice around, so that a stretch over the lamps 9 and 0 is seen whole
        for (int i = 0; i < 2 * LAMP_COUNT; i++) {
            run = (wanted >> i % LAMP_COUNT & 1) == 1 ? run + 1 : 0;
            most = Math.max(most, run);
        }
        return Math.min(most, LAMP_COUNT);
    }

    public int said(int dispute, int person, int fills) {
        if (dispute == NONE) {
            town.facts.clear();
            return 0;
        }
        if (!town.hasDispute(dispute) || !town.hasPerson(person) || fills < 0 || fills > MOST_FILLS) {
            return NO_SUCH;
        }
        int fact = (dispute * MOST_PEOPLE + person) * TENTHS + fills;
        return town.facts.add(fact) ? town.facts.size : NO_SUCH;
    }

    public int whose() {
        int found = 0;
        for (int text = 0; text < town.texts; text++) {
            if (town.agrees(text)) {
                found |= 1 << text;
            }
        }
        return found;
    }

    public int blaze(boolean most) {
        int found = NONE;
        int best = 0;
        for (int d = 0; d < town.disputes.size; d++) {
            int behind = Integer.bitCount(town.now.lit ^ town.disputes.at(d));
            if (found == NONE || (most ? behind > best : behind < best)) {
                found = d;
                best = behind;
            }
        }
        return found;
    }

    public int surest() {
        int found = NONE;
        for (int p = 0; p < town.now.people; p++) {
            if (found == NONE || town.slips.at(p) < town.slips.at(found)) {
                found = p;
            }
        }
        return found;
    }

    public int poorest() {
        int found = NONE;
        for (int p = 0; p < town.now.people; p++) {
            if (found == NONE || town.now.oil[p] < town.now.oil[found]) {
                found = p;
            }
        }
        return found;
    }

    public int solvent() {
        int found = 0;
        for (int p = 0; p < town.now.people; p++) {
            if (town.canFillAny(p)) {
                found |= 1 << p;
            }
        }
        return found;
    }

    public int fool() {
        int found = NONE;
        int most = 0;
        for (int p = 0; p < town.now.people; p++) {
            if (town.now.wrong[p] > most) {
                found = p;
                most = town.now.wrong[p];
            }
        }
        return found;
    }

    public int ledger(int person) {
        if (person == NONE) {
            return town.now.lines;
        }
        return town.hasPerson(person) ? town.now.linesOf(person) : NO_SUCH;
    }

    // ---- the image ----

    public int image() {
        kept.copy(town);
        return town.now.night;
    }

    public int back() {
        town.copy(kept);
        return town.now.night;
    }

    public int about(int what) {
        switch (what) {
            case 0: return town.now.people;
            case 1: return town.disputes.size;
            case 2: return town.texts;
            case 3: return town.ruling;
            case 4: return town.steps;
            case 5: return town.streets.size;
            case 6: return town.verdicts.size;
            case 7: return town.facts.size;
            case 8: return reader.size;
            default: return NO_SUCH;
        }
    }

    // ---- helpers ----

    private Sets setsNow() {
        sets.takeFrom(town.disputes);
        return sets;
    }

    private Sets walked(int n) {
        sets.takeFrom(town.disputes);
        sets.walk(n);
        return sets;
    }

    private static boolean isLamp(int lamp) {
        return lamp >= 0 && lamp < LAMP_COUNT;
    }

    private static boolean areLamps(int lamps) {
        return lamps >= 0 && lamps <= ALL_LAMPS;
    }

    private static int sizeOf(int set) {
        return set == NONE ? NONE : Integer.bitCount(set);
    }

    private static int between(int low, int value, int high) {
        return Math.max(low, Math.min(value, high));
    }

    private static long power(long base, int n) {
        long product = 1;
        for (int i = 0; i < n; i++) {
            product *= base;
        }
        return product;
    }

    /** The upper or the lower one of upper / lower in lowest terms. */
    private static long inLowest(long upper, long lower, boolean low) {
        long common = lower;
        long left = upper;
        for (int i = 0; i < EUCLID_ROUNDS && left != 0; i++) {
            long over = common % left;
            common = left;
            left = over;
        }
        long part = low ? lower : upper;
        return common == 0 ? part : part / common;
    }

    /** Numbers told one by one, up to a limit. */
    private static final class Told {
        private final int[] rows;
        private int size;

        Told(int most) {
            rows = new int[Math.max(most, 0)];
        }

        int at(int i) {
            return i >= 0 && i < size && i < rows.length ? rows[i] : 0;
        }

        boolean add(int row) {
            if (size >= rows.length) {
                return false;
            }
            rows[size] = row;
            size++;
            return true;
        }

        void clear() {
            size = 0;
        }

        void copy(Told from) {
            clear();
            for (int i = 0; i < from.size; i++) {
                add(from.at(i));
            }
        }
    }

    /** All that a STEP changes and that taking it back restores. */
    private static final class State {
        private int people;
        private int lit;
        private int burnt;
        private int night;
        private int x = FIRST_X;
        private int lines;
        private final int[] oil = new int[MOST_PEOPLE];
        private final int[] wrong = new int[MOST_PEOPLE];
        /** Each line of the BOOK in one number: see write and read. */
        private final int[] lineRows = new int[MOST_LINES];

        void copy(State from) {
            people = from.people;
            restore(from);
        }

        /** People whom the other state doesn't know yet stay as they are. */
        void restore(State from) {
            for (int p = 0; p < from.people && p < MOST_PEOPLE; p++) {
                oil[p] = from.oil[p];
                wrong[p] = from.wrong[p];
            }
            lit = from.lit;
            burnt = from.burnt;
            night = from.night;
            x = from.x;
            lines = from.lines;
            System.arraycopy(from.lineRows, 0, lineRows, 0, MOST_LINES);
        }

        int draw(int by) {
            int drawn = by > 0 ? x % by : 0;
            x = (x * 617 + 491) % 30869;
            return drawn;
        }

        int oilOfAll() {
            int sum = 0;
            for (int p = 0; p < people && p < MOST_PEOPLE; p++) {
                sum += oil[p];
            }
            return sum;
        }

        void write(int dispute, int loser) {
            if (lines >= MOST_LINES) {
                System.arraycopy(lineRows, 1, lineRows, 0, MOST_LINES - 1);
                lines = MOST_LINES - 1;
            }
            lineRows[lines] = ((night * MOST_DISPUTES + dispute) * MOST_PEOPLE + loser) * (ALL_LAMPS + 1) + lit;
            lines++;
        }

        int read(int i, int what) {
            if (i < 0 || i >= lines || i >= MOST_LINES) {
                return NO_SUCH;
            }
            int line = lineRows[i];
            int head = line / (ALL_LAMPS + 1);
            switch (what) {
                case 0: return head / (MOST_DISPUTES * MOST_PEOPLE);
                case 1: return head / MOST_PEOPLE % MOST_DISPUTES;
                case 2: return head % MOST_PEOPLE;
                case 3: return line % (ALL_LAMPS + 1);
                default: return NO_SUCH;
            }
        }

        int linesOf(int loser) {
            int count = 0;
            for (int i = 0; i < lines; i++) {
                if (read(i, 2) == loser) {
                    count++;
                }
            }
            return count;
        }
    }

    /** All that an image holds, and what is done to it by hand, by scripts and by draws. */
    private static final class Town {
        private final State now = new State();
        private final Told slips = new Told(MOST_PEOPLE);
        private final Told disputes = new Told(MOST_DISPUTES);
        private final Told streets = new Told(MOST_STREETS);
        /** Each verdict is its person * 2, and 1 more for "it is so". */
        private final Told verdicts = new Told(MOST_TOLD);
        /** What is SAID: (dispute * 4 + person) * 10 + fills. */
        private final Told facts = new Told(MOST_TOLD);
        private final Script[] scripts = new Script[MOST_TEXTS];
        private int texts;
        private int ruling = NONE;
        /** The states ahead of the latest steps, in a ring. */
        private final State[] ahead = new State[MOST_STEPS];
        private int eldest;
        private int steps;
        private final Machine machine = new Machine();

        Town() {
            for (int i = 0; i < MOST_TEXTS; i++) {
                scripts[i] = new Script();
            }
            for (int i = 0; i < MOST_STEPS; i++) {
                ahead[i] = new State();
            }
        }

        void copy(Town from) {
            now.copy(from.now);
            slips.copy(from.slips);
            disputes.copy(from.disputes);
            streets.copy(from.streets);
            verdicts.copy(from.verdicts);
            facts.copy(from.facts);
            texts = from.texts;
            ruling = from.ruling;
            for (int i = 0; i < texts; i++) {
                scripts[i].copy(from.scripts[i]);
            }
            eldest = from.eldest;
            steps = from.steps;
            for (int i = 0; i < MOST_STEPS; i++) {
                ahead[i].copy(from.ahead[i]);
            }
        }

        boolean hasPerson(int person) {
            return person >= 0 && person < now.people;
        }

        boolean hasTwo(int a, int b) {
            return hasPerson(a) && hasPerson(b) && a != b;
        }

        boolean hasDispute(int dispute) {
            return dispute >= 0 && dispute < disputes.size;
        }

        boolean hasText(int text) {
            return text >= 0 && text < texts;
        }

        boolean canArgue(int dispute, int a, int b) {
            return hasDispute(dispute) && hasTwo(a, b);
        }

        int tellPerson(int oil, int slip) {
            if (oil < 0 || oil > MOST_OIL || slip < 0 || slip > TENTHS || !slips.add(slip)) {
                return NONE;
            }
            int person = slips.size - 1;
            now.oil[person] = oil;
            now.wrong[person] = 0;
            now.people = slips.size;
            return person;
        }

        int tellDispute(int lamps) {
            return areLamps(lamps) && disputes.add(lamps) ? disputes.size - 1 : NONE;
        }

        // ---- laws ----

        int oddsOf(int dispute, int first, int other) {
            if (!hasText(ruling) || scripts[ruling].losesFrom == NONE) {
                return slips.at(first);
            }
            nameAll(dispute, first);
            machine.names[OTHER] = slips.at(other);
            machine.names[AGAINST] = now.oil[other];
            return between(0, machine.value(scripts[ruling], scripts[ruling].losesFrom, now.lit), TENTHS);
        }

        int fillsBy(int text, int dispute, int payer) {
            if (!hasText(text) || scripts[text].fillsFrom == NONE) {
                return Math.min(Integer.bitCount(disputes.at(dispute)), MOST_FILLS);
            }
            nameAll(dispute, payer);
            machine.names[WHO] = payer;
            return between(0, machine.value(scripts[text], scripts[text].fillsFrom, now.lit), MOST_FILLS);
        }

        private void nameAll(int dispute, int person) {
            machine.names[NIGHT] = now.night;
            machine.names[LIT] = Integer.bitCount(now.lit);
            machine.names[NUMBER_OF] = dispute;
            machine.names[SIZE] = Integer.bitCount(disputes.at(dispute));
            machine.names[SLIP] = slips.at(person);
            machine.names[OIL] = now.oil[person];
            machine.names[WRONG] = now.wrong[person];
        }

        /** Whether all that is SAID is so by a text's fills. */
        boolean agrees(int text) {
            for (int i = 0; i < facts.size; i++) {
                int fact = facts.at(i);
                int who = fact / TENTHS;
                if (fillsBy(text, who / MOST_PEOPLE, who % MOST_PEOPLE) != fact % TENTHS) {
                    return false;
                }
            }
            return true;
        }

        boolean canFillAny(int person) {
            for (int d = 0; d < disputes.size; d++) {
                if (now.oil[person] < fillsBy(ruling, d, person)) {
                    return false;
                }
            }
            return true;
        }

        // ---- steps ----

        void beginStep() {
            ahead[(eldest + steps) % MOST_STEPS].copy(now);
            if (steps < MOST_STEPS) {
                steps++;
            } else {
                eldest = (eldest + 1) % MOST_STEPS;
            }
        }

        int takeBack() {
            if (steps == 0) {
                return NONE;
            }
            steps--;
            now.restore(ahead[(eldest + steps) % MOST_STEPS]);
            return steps;
        }

        int argueByHand(int dispute, int a, int b) {
            if (!canArgue(dispute, a, b)) {
                return NONE;
            }
            beginStep();
            return argueOut(dispute, a, b);
        }

        boolean pourByHand(int person, int oil) {
            if (oil == 0 || oil < -MOST_OIL || oil > MOST_OIL || !canPour(person, oil)) {
                return false;
            }
            beginStep();
            now.oil[person] += oil;
            return true;
        }

        boolean snuffByHand(int lamp) {
            if (!isLamp(lamp) || (now.lit >> lamp & 1) == 0) {
                return false;
            }
            beginStep();
            now.lit &= ~(1 << lamp);
            return true;
        }

        /** How many of so many nights could pass. */
        int passNights(int n, boolean asSteps) {
            int passed = 0;
            for (int i = 0; i < n && now.night < LAST_NIGHT; i++) {
                if (asSteps) {
                    beginStep();
                }
                int oil = now.oilOfAll();
                if (disputes.size > 0 && now.people > 1) {
                    int dispute = now.draw(disputes.size);
                    int first = now.draw(now.people);
                    int other = now.draw(now.people - 1);
                    argueOut(dispute, first, other < first ? other : other + 1);
                }
                now.lit &= ~(1 << now.draw(LAMP_COUNT));
                now.burnt = oil - now.oilOfAll();
                now.night++;
                passed++;
            }
            return passed;
        }

        private boolean canPour(int person, int oil) {
            return hasPerson(person) && now.oil[person] + oil >= 0 && now.oil[person] + oil <= MOST_OIL;
        }

        /** Who loses; for a dispute and two people that are told. */
        private int argueOut(int dispute, int a, int b) {
            int odds = oddsOf(dispute, a, b);
            int loser = now.draw(TENTHS) < odds ? a : b;
            int paid = Math.min(fillsBy(ruling, dispute, loser), now.oil[loser]);
            now.wrong[loser] = Math.min(now.wrong[loser] + 1, MOST_WRONG);
            now.oil[loser] -= paid;
            now.lit ^= disputes.at(dispute);
            now.write(dispute, loser);
            return loser;
        }

        /** One of the draws that YEARS are made of. */
        void drawYear() {
            int x = now.x;
            now.draw(2);
            int sixth = x / 6;
            switch (x % 6) {
                case 0:
                case 1:
                    argueInYear(among(sixth, disputes.size), among(x, now.people), among(sixth, now.people));
                    break;
                case 2:
                    now.lit &= ~(1 << sixth % LAMP_COUNT);
                    break;
                case 3:
                    pourInYear(among(x, now.people), 1 + sixth % 5);
                    break;
                default:
                    passNights(1, false);
                    break;
            }
        }

        private void argueInYear(int dispute, int a, int b) {
            if (canArgue(dispute, a, b)) {
                argueOut(dispute, a, b);
            }
        }

        private void pourInYear(int person, int oil) {
            if (canPour(person, oil)) {
                now.oil[person] += oil;
            }
        }

        private static int among(int x, int howMany) {
            return howMany > 0 ? x % howMany : NONE;
        }

        // ---- scripts ----

        /** Whether a clause of a text could be done whole. */
        boolean play(Script script, int clause) {
            int first = script.number(clause, 0);
            int second = script.number(clause, 1);
            int third = script.number(clause, 2);
            switch (script.kind(clause)) {
                case PERSON: return tellPerson(first, second) != NONE;
                case TURNS: return tellDispute(lampsFrom(first, second)) != NONE;
                case ARGUE: return argueByHand(first, second, third) != NONE;
                case POUR: return pourByHand(second, first);
                case SNUFF: return snuffByHand(first);
                case NIGHT: return passNights(first, true) == first;
                default: return true;
            }
        }

        private static int lampsFrom(int lamp, int more) {
            int lamps = 0;
            for (int i = 0; i <= more && i < LAMP_COUNT; i++) {
                lamps |= 1 << (lamp + i) % LAMP_COUNT;
            }
            return lamps;
        }
    }

    /** A TEXT as it was read: its clauses in their order, its laws as code for the machine. */
    private static final class Script {
        private int clauses;
        private int numbers;
        private int used;
        private int losesFrom = NONE;
        private int fillsFrom = NONE;
        private final int[] kinds = new int[MOST_CLAUSES];
        private final int[] numberRows = new int[MOST_CLAUSES * CLAUSE_NUMBERS];
        private final int[] code = new int[MOST_CODE];

        void empty() {
            clauses = 0;
            numbers = 0;
            used = 0;
            losesFrom = NONE;
            fillsFrom = NONE;
        }

        void copy(Script from) {
            clauses = from.clauses;
            numbers = from.numbers;
            used = from.used;
            losesFrom = from.losesFrom;
            fillsFrom = from.fillsFrom;
            System.arraycopy(from.kinds, 0, kinds, 0, MOST_CLAUSES);
            System.arraycopy(from.numberRows, 0, numberRows, 0, MOST_CLAUSES * CLAUSE_NUMBERS);
            System.arraycopy(from.code, 0, code, 0, MOST_CODE);
        }

        void addClause(int kind) {
            if (clauses < MOST_CLAUSES) {
                kinds[clauses] = kind;
                clauses++;
                numbers = 0;
            }
        }

        /** One more number of the latest clause. */
        void addNumber(int number) {
            int place = (clauses - 1) * CLAUSE_NUMBERS + numbers;
            if (clauses > 0 && numbers < CLAUSE_NUMBERS && place < numberRows.length) {
                numberRows[place] = number;
                numbers++;
            }
        }

        void emit(int entry) {
            if (used < MOST_CODE) {
                code[used] = entry;
                used++;
            }
        }

        /** The jump whose aim stands at that place goes to what comes next. */
        void land(int place) {
            if (place >= 0 && place < MOST_CODE) {
                code[place] = used;
            }
        }

        int kind(int clause) {
            return clause >= 0 && clause < clauses ? kinds[clause] : NO_TOKEN;
        }

        int number(int clause, int i) {
            int place = clause * CLAUSE_NUMBERS + i;
            return clause >= 0 && clause < clauses && i >= 0 && i < CLAUSE_NUMBERS ? numberRows[place] : 0;
        }

        int entry(int place) {
            return place >= 0 && place < used ? code[place] : STOP;
        }
    }

    /** The tape, and the reading of it: the bytes to tokens, the tokens to a script. */
    private static final class Reader {
        private final int[] tape = new int[MOST_BYTES];
        private int size;
        private boolean hasRead;
        private int fault;
        private int place = NONE;
        private final Script draft = new Script();
        /** The tokens: one for each byte at most, and the end. */
        private final int[] kinds = new int[MOST_BYTES + 1];
        private final int[] values = new int[MOST_BYTES + 1];
        private final int[] places = new int[MOST_BYTES + 1];
        private int tokens;
        private int at;

        void append(int four) {
            for (int shift = 24; shift >= 0 && size < MOST_BYTES; shift -= 8) {
                tape[size] = four >> shift & 255;
                size++;
            }
        }

        /** Whether the tape is a text: the draft is it then; else fault and place say why not. */
        boolean readTape() {
            hasRead = true;
            fault = 0;
            place = NONE;
            draft.empty();
            cut();
            at = 0;
            for (int i = 0; i <= MOST_BYTES && kinds[at] != FINISH; i++) {
                if (!clause()) {
                    return false;
                }
            }
            return true;
        }

        // ---- bytes to tokens ----

        private void cut() {
            tokens = 0;
            int from = 0;
            for (int i = 0; i < MOST_BYTES && from < size; i++) {
                int first = tape[from];
                int length = 1;
                if (isLetter(first)) {
                    length = lettersFrom(from);
                    addToken(wordAt(from, length), 0, from);
                } else if (isDigit(first)) {
                    length = digitsFrom(from);
                    addToken(NUMBER, numberAt(from, length), from);
                } else if (first != ' ' && first != '\n') {
                    length = isPair(from) ? 2 : 1;
                    addToken(length == 2 ? sign(first) + 1 : sign(first), 0, from);
                }
                from += length;
            }
            addToken(FINISH, 0, size);
        }

        private void addToken(int kind, int value, int from) {
            if (tokens <= MOST_BYTES) {
                kinds[tokens] = kind;
                values[tokens] = value;
                places[tokens] = from;
                tokens++;
            }
        }

        private int lettersFrom(int from) {
            int length = 0;
            while (from + length < size && isLetter(tape[from + length])) {
                length++;
            }
            return length;
        }

        private int digitsFrom(int from) {
            int length = 0;
            while (from + length < size && isDigit(tape[from + length])) {
                length++;
            }
            return length;
        }

        private int numberAt(int from, int length) {
            int number = 0;
            for (int i = from; i < from + length; i++) {
                number = Math.min(number * 10 + tape[i] - '0', MOST_NUMBER + 1);
            }
            return number;
        }

        /** <= or >=. */
        private boolean isPair(int from) {
            return (tape[from] == '<' || tape[from] == '>') && from + 1 < size && tape[from + 1] == '=';
        }

        private int wordAt(int from, int length) {
            int word = 0;
            int start = 0;
            for (int i = 0; i < WORDS.length(); i++) {
                if (WORDS.charAt(i) == ' ') {
                    if (i - start == length && isSpelt(start, from, length)) {
                        return word;
                    }
                    word++;
                    start = i + 1;
                }
            }
            return NO_TOKEN;
        }

        private boolean isSpelt(int start, int from, int length) {
            for (int i = 0; i < length; i++) {
                if (WORDS.charAt(start + i) != tape[from + i]) {
                    return false;
                }
            }
            return true;
        }

        private static boolean isLetter(int sign) {
            return sign >= 'a' && sign <= 'z' || sign >= 'A' && sign <= 'Z';
        }

        private static boolean isDigit(int sign) {
            return sign >= '0' && sign <= '9';
        }

        private static int sign(int sign) {
            switch (sign) {
                case '<': return BELOW;
                case '>': return ABOVE;
                case '=': return EQUAL;
                case '#': return UNLIKE;
                case '+': return PLUS;
                case '-': return MINUS;
                case '*': return TIMES;
                case '/': return OVER;
                case '(': return OPEN;
                case ')': return CLOSE;
                case ';': return STOP;
                default: return NO_TOKEN;
            }
        }

        // ---- tokens to a script ----

        private boolean fail(int number) {
            fault = number;
            place = places[at];
            return false;
        }

        /** The end is never gone past, so that there is always a token to look at. */
        private void pass() {
            if (at < tokens - 1) {
                at++;
            }
        }

        private boolean expect(int kind) {
            if (kinds[at] != kind) {
                return fail(FAULT_STANDS);
            }
            pass();
            return true;
        }

        private boolean number(int low, int high) {
            if (kinds[at] != NUMBER) {
                return fail(FAULT_STANDS);
            }
            if (values[at] < low || values[at] > high) {
                return fail(FAULT_NUMBER);
            }
            draft.addNumber(values[at]);
            pass();
            return true;
        }

        private boolean clause() {
            int first = kinds[at];
            if (first != NIGHT && (first < LOSES || first > SNUFF)) {
                return fail(FAULT_STANDS);
            }
            if (first == LOSES && draft.losesFrom != NONE || first == FILLS && draft.fillsFrom != NONE) {
                return fail(FAULT_TWICE);
            }
            if (draft.clauses >= MOST_CLAUSES) {
                return fail(FAULT_CLAUSES);
            }
            draft.addClause(first);
            pass();
            boolean whole = first == LOSES || first == FILLS ? law(first) : order(first);
            return whole && expect(STOP);
        }

        /** A clause that is no law, between its first token and its last. */
        private boolean order(int first) {
            switch (first) {
                case PERSON: return number(0, MOST_OIL) && expect(SLIP) && number(0, TENTHS);
                case TURNS: return lamp() && expect(BY) && number(0, LAMP_COUNT - 1);
                case ARGUE: return number(0, MOST_DISPUTES - 1) && expect(BY) && one() && expect(TO) && one();
                case POUR: return number(1, MOST_OIL) && expect(BY) && one();
                case SNUFF: return lamp();
                default: return number(1, MOST_NIGHTS);
            }
        }

        private boolean lamp() {
            return number(0, LAMP_COUNT - 1);
        }

        private boolean one() {
            return number(0, MOST_PEOPLE - 1);
        }

        private boolean law(int first) {
            if (first == LOSES) {
                draft.losesFrom = draft.used;
            } else {
                draft.fillsFrom = draft.used;
            }
            if (!sum(first, 0)) {
                return false;
            }
            draft.emit(STOP);
            return true;
        }

        // law is LOSES or FILLS; open is how many ( not around lamp if - are open

        private boolean sum(int law, int open) {
            if (!product(law, open)) {
                return false;
            }
            for (int i = 0; i < MOST_BYTES && (kinds[at] == PLUS || kinds[at] == MINUS); i++) {
                int sign = kinds[at];
                pass();
                if (!product(law, open)) {
                    return false;
                }
                draft.emit(sign);
            }
            return true;
        }

        private boolean product(int law, int open) {
            if (!factor(law, open)) {
                return false;
            }
            for (int i = 0; i < MOST_BYTES && (kinds[at] == TIMES || kinds[at] == OVER); i++) {
                int sign = kinds[at];
                pass();
                if (!factor(law, open)) {
                    return false;
                }
                draft.emit(sign);
            }
            return true;
        }

        /** What the document calls ONE. */
        private boolean factor(int law, int open) {
            int first = kinds[at];
            if (first == NUMBER) {
                return constant();
            }
            if (first < NAME_COUNT) {
                return name(law);
            }
            if (first != OPEN && first != MINUS && first != LAMP && first != AROUND && first != IF) {
                return fail(FAULT_STANDS);
            }
            if (open >= MOST_OPEN) {
                return fail(FAULT_OPEN);
            }
            pass();
            switch (first) {
                case OPEN: return sum(law, open + 1) && expect(CLOSE);
                case MINUS: return factor(law, open + 1) && emitted(NEGATE);
                case LAMP: return factor(law, open + 1) && emitted(LAMP);
                case AROUND: return factor(law, open + 1) && expect(OF) && factor(law, open + 1) && emitted(AROUND);
                default: return choice(law, open + 1);
            }
        }

        private boolean constant() {
            if (values[at] > MOST_NUMBER) {
                return fail(FAULT_NUMBER);
            }
            draft.emit(NUMBER);
            draft.emit(values[at]);
            pass();
            return true;
        }

        private boolean name(int law) {
            int name = kinds[at];
            if (law == LOSES ? name == WHO : name == OTHER || name == AGAINST) {
                return fail(FAULT_NAME);
            }
            draft.emit(name);
            pass();
            return true;
        }

        private boolean emitted(int entry) {
            draft.emit(entry);
            return true;
        }

        /** An if, behind its first token. */
        private boolean choice(int law, int open) {
            if (!either(law, open) || !expect(THEN)) {
                return false;
            }
            int unless = emitJump(JUMP_UNLESS);
            if (!sum(law, open) || !expect(ELSE)) {
                return false;
            }
            int past = emitJump(JUMP);
            draft.land(unless);
            if (!sum(law, open) || !expect(END)) {
                return false;
            }
            draft.land(past);
            return true;
        }

        /** Where the jump's aim stands, to be set by land. */
        private int emitJump(int jump) {
            draft.emit(jump);
            draft.emit(0);
            return draft.used - 1;
        }

        private boolean either(int law, int open) {
            if (!both(law, open)) {
                return false;
            }
            for (int i = 0; i < MOST_BYTES && kinds[at] == OR; i++) {
                pass();
                if (!both(law, open)) {
                    return false;
                }
                draft.emit(OR);
            }
            return true;
        }

        private boolean both(int law, int open) {
            if (!ask(law, open)) {
                return false;
            }
            for (int i = 0; i < MOST_BYTES && kinds[at] == AND; i++) {
                pass();
                if (!ask(law, open)) {
                    return false;
                }
                draft.emit(AND);
            }
            return true;
        }

        private boolean ask(int law, int open) {
            if (kinds[at] == NOT) {
                if (open >= MOST_OPEN) {
                    return fail(FAULT_OPEN);
                }
                pass();
                return ask(law, open + 1) && emitted(NOT);
            }
            if (!sum(law, open)) {
                return false;
            }
            int sign = kinds[at];
            if (sign < BELOW || sign > UNLIKE) {
                return fail(FAULT_STANDS);
            }
            pass();
            return sum(law, open) && emitted(sign);
        }
    }

    /** Works a law out. */
    private static final class Machine {
        private final int[] names = new int[NAME_COUNT];
        private final int[] stack = new int[MOST_STACK];
        private int top;

        int value(Script script, int from, int lit) {
            top = 0;
            int at = from;
            // jumps lead ahead alone, so no entry is met twice
            for (int i = 0; i < MOST_CODE && script.entry(at) != STOP; i++) {
                int entry = script.entry(at);
                at++;
                if (entry == NUMBER) {
                    push(script.entry(at));
                    at++;
                } else if (entry >= 0 && entry < NAME_COUNT) {
                    push(names[entry]);
                } else if (entry == JUMP) {
                    at = script.entry(at);
                } else if (entry == JUMP_UNLESS) {
                    at = pop() == 0 ? script.entry(at) : at + 1;
                } else if (entry == NEGATE || entry == LAMP || entry == NOT) {
                    push(ofOne(entry, pop(), lit));
                } else {
                    int right = pop();
                    push(ofTwo(entry, pop(), right));
                }
            }
            return pop();
        }

        private void push(int value) {
            if (top < MOST_STACK) {
                stack[top] = value;
                top++;
            }
        }

        private int pop() {
            if (top <= 0) {
                return 0;
            }
            top--;
            return stack[top];
        }

        private static int ofOne(int sign, int value, int lit) {
            switch (sign) {
                case NEGATE: return -value;
                case LAMP: return isLamp(value) ? lit >> value & 1 : 0;
                default: return value == 0 ? 1 : 0;
            }
        }

        private static int ofTwo(int sign, int left, int right) {
            long value;
            switch (sign) {
                case PLUS: value = (long) left + right; break;
                case MINUS: value = (long) left - right; break;
                case TIMES: value = (long) left * right; break;
                case OVER: value = right == 0 ? 0 : left / right; break;
                case AROUND: value = apart(left, right); break;
                case BELOW: value = left < right ? 1 : 0; break;
                case AT_MOST: value = left <= right ? 1 : 0; break;
                case ABOVE: value = left > right ? 1 : 0; break;
                case AT_LEAST: value = left >= right ? 1 : 0; break;
                case EQUAL: value = left == right ? 1 : 0; break;
                case UNLIKE: value = left != right ? 1 : 0; break;
                case AND: value = left & right; break;
                default: value = left | right; break;
            }
            if (value > MOST_VALUE) {
                return MOST_VALUE;
            }
            return value < -MOST_VALUE ? -MOST_VALUE : (int) value;
        }

        private static int apart(int a, int b) {
            if (a < 0 || a >= LAMP_COUNT || b < 0 || b >= LAMP_COUNT) {
                return 0;
            }
            int straight = a < b ? b - a : a - b;
            return straight > LAMP_COUNT / 2 ? LAMP_COUNT - straight : straight;
        }
    }

    /** All sets of disputes (bits), with the lamps that each turns over. */
    private static final class Sets {
        private final int[] sums = new int[DISPUTE_SETS];
        private final int[] worths = new int[DISPUTE_SETS];
        private int[] paths = new int[DISPUTE_SETS];
        private int[] nextPaths = new int[DISPUTE_SETS];
        private int disputes;
        private int count = 1;

        void takeFrom(Told told) {
            disputes = Math.min(told.size, MOST_DISPUTES);
            count = 1 << disputes;
            for (int d = 0; d < disputes; d++) {
                int without = 1 << d;
                for (int set = 0; set < without; set++) {
                    sums[without + set] = sums[set] ^ told.at(d);
                }
            }
        }

        /** Those disputes, from the lowest on, that no set of those taken ahead makes up for. */
        int independent() {
            int taken = 0;
            for (int d = 0; d < disputes; d++) {
                if (!isTurnedWithin(taken, sums[1 << d])) {
                    taken |= 1 << d;
                }
            }
            return taken;
        }

        boolean isTurnedByOthers(int dispute) {
            if (dispute < 0 || dispute >= disputes) {
                return false;
            }
            return isTurnedWithin(count - 1 & ~(1 << dispute), sums[1 << dispute]);
        }

        private boolean isTurnedWithin(int allowed, int lamps) {
            for (int set = 0; set < count; set++) {
                if ((set & ~allowed) == 0 && sums[set] == lamps) {
                    return true;
                }
            }
            return false;
        }

        int fewestFor(int lamps) {
            int found = NONE;
            for (int set = 0; set < count; set++) {
                if (sums[set] == lamps && isFewer(set, found)) {
                    found = set;
                }
            }
            return found;
        }

        private static boolean isFewer(int set, int found) {
            return found == NONE || Integer.bitCount(set) < Integer.bitCount(found);
        }

        int howMany(int lamps) {
            int ways = 0;
            for (int set = 0; set < count; set++) {
                if (sums[set] == lamps) {
                    ways++;
                }
            }
            return ways;
        }

        int leastTurned() {
            int least = NONE;
            for (int set = 0; set < count; set++) {
                int turned = Integer.bitCount(sums[set]);
                if (turned > 0 && (least == NONE || turned < least)) {
                    least = turned;
                }
            }
            return least;
        }

        int fewestLit(int lit) {
            int fewest = LAMP_COUNT;
            for (int set = 0; set < count; set++) {
                fewest = Math.min(fewest, Integer.bitCount(lit ^ sums[set]));
            }
            return fewest;
        }

        int mostLit(int lit) {
            int most = 0;
            for (int set = 0; set < count; set++) {
                most = Math.max(most, Integer.bitCount(lit ^ sums[set]));
            }
            return most;
        }

        int lowestWith(int lit, int many) {
            int found = NONE;
            for (int set = 0; set < count; set++) {
                int brought = lit ^ sums[set];
                if (Integer.bitCount(brought) == many && (found == NONE || brought < found)) {
                    found = brought;
                }
            }
            return found;
        }

        int turningNothing(int i) {
            int left = i;
            for (int set = 1; set < count && left >= 0; set++) {
                if (sums[set] == 0) {
                    if (left == 0) {
                        return set;
                    }
                    left--;
                }
            }
            return NO_SUCH;
        }

        int nearestTo(int lit, int wanted) {
            int found = lit;
            for (int set = 0; set < count; set++) {
                int brought = lit ^ sums[set];
                int nearer = Integer.bitCount(found ^ wanted) - Integer.bitCount(brought ^ wanted);
                if (nearer > 0 || nearer == 0 && brought < found) {
                    found = brought;
                }
            }
            return found;
        }

        int fewestLighting(int lit, Told streets) {
            int found = NONE;
            for (int set = 0; set < count; set++) {
                if (isFewer(set, found) && lightsAll(lit ^ sums[set], streets)) {
                    found = set;
                }
            }
            return found;
        }

        private static boolean lightsAll(int lit, Told streets) {
            for (int i = 0; i < streets.size; i++) {
                if ((lit & streets.at(i)) == 0) {
                    return false;
                }
            }
            return true;
        }

        int howManyOf(int n, int lamps) {
            int ways = 0;
            for (int set = 0; set < count; set++) {
                if (Integer.bitCount(set) == n && sums[set] == lamps) {
                    ways++;
                }
            }
            return ways;
        }

        int lowestOf(int n, int lamps) {
            for (int set = 0; set < count; set++) {
                if (Integer.bitCount(set) == n && sums[set] == lamps) {
                    return set;
                }
            }
            return NONE;
        }

        // ---- walks: so many disputes by lot, the same one again maybe ----

        /** By how many walks each set comes to be those disputes that were drawn an odd number of times. */
        void walk(int n) {
            for (int set = 0; set < count; set++) {
                paths[set] = 0;
            }
            paths[0] = 1;
            for (int i = 0; i < n && disputes > 0; i++) {
                for (int set = 0; set < count; set++) {
                    nextPaths[set] = pathsInto(set);
                }
                int[] swap = paths;
                paths = nextPaths;
                nextPaths = swap;
            }
        }

        private int pathsInto(int set) {
            int into = 0;
            for (int d = 0; d < disputes; d++) {
                into += paths[set ^ 1 << d];
            }
            return into;
        }

        long walks(int n) {
            return disputes > 0 ? power(disputes, n) : 1;
        }

        /** The walks behind which a lamp is lit, for all of those lamps together. */
        long litWalks(int lit, int lamps) {
            long sum = 0;
            for (int set = 0; set < count; set++) {
                sum += (long) paths[set] * Integer.bitCount((lit ^ sums[set]) & lamps);
            }
            return sum;
        }

        long darkWalks(int lit) {
            long sum = 0;
            for (int set = 0; set < count; set++) {
                if (sums[set] == lit) {
                    sum += paths[set];
                }
            }
            return sum;
        }

        // ---- the game ----

        /** What the game comes to behind each set that can be said in it, from the last ones back. */
        void playOut(int lit) {
            int rounds = (disputes + 1) / 2;
            for (int set = count - 1; set >= 0; set--) {
                int said = Integer.bitCount(set);
                if (said == rounds) {
                    worths[set] = Integer.bitCount(lit ^ sums[set]);
                } else if (said < rounds) {
                    worths[set] = bestBehind(set, said % 2 == 0);
                }
            }
        }

        private int bestBehind(int set, boolean most) {
            int best = NONE;
            for (int d = 0; d < disputes; d++) {
                if ((set >> d & 1) == 0) {
                    int next = worths[set | 1 << d];
                    if (best == NONE || (most ? next > best : next < best)) {
                        best = next;
                    }
                }
            }
            return best;
        }

        int worth() {
            return worths[0];
        }

        int firstSaid() {
            for (int d = 0; d < disputes; d++) {
                if (worths[1 << d] == worths[0]) {
                    return d;
                }
            }
            return NONE;
        }
    }

    /** Who should lose which dispute for the least oil. */
    private static final class Bill {
        /** Above what any bill comes to. */
        private static final int NO_WAY = 1 << 28;
        /** A cost is the oil * WAYS and the losers as digits, the lowest dispute's first: the least is the one asked for. */
        private static final int WAYS = 1 << 2 * MOST_DISPUTES;

        private final int[] costs = new int[DISPUTE_SETS];
        private int[] least = new int[DISPUTE_SETS];
        private int[] nextLeast = new int[DISPUTE_SETS];
        private int answer = NO_WAY;

        /** Whether there is a way. */
        boolean solve(Town town, int disputes) {
            for (int set = 0; set < DISPUTE_SETS; set++) {
                least[set] = set == 0 ? 0 : NO_WAY;
            }
            for (int person = 0; person < town.now.people; person++) {
                priceAll(town, person, disputes);
                for (int set = 0; set <= disputes && set < DISPUTE_SETS; set++) {
                    nextLeast[set] = (set & ~disputes) == 0 ? leastWith(set) : NO_WAY;
                }
                int[] swap = least;
                least = nextLeast;
                nextLeast = swap;
            }
            answer = disputes >= 0 && disputes < DISPUTE_SETS ? least[disputes] : NO_WAY;
            return answer < NO_WAY;
        }

        /** What each set of disputes costs, if all of it is lost by one person. */
        private void priceAll(Town town, int person, int disputes) {
            costs[0] = 0;
            for (int d = 0; d < MOST_DISPUTES; d++) {
                int without = 1 << d;
                boolean asked = (disputes >> d & 1) == 1;
                int price = asked ? town.fillsBy(town.ruling, d, person) * WAYS + person * digit(d) : NO_WAY;
                for (int set = 0; set < without; set++) {
                    int whole = Math.min(costs[set] + price, NO_WAY);
                    costs[without + set] = whole / WAYS > town.now.oil[person] ? NO_WAY : whole;
                }
            }
        }

        /** The least for a set, if the person that was priced loses some of it and those ahead the others. */
        private int leastWith(int set) {
            int best = NO_WAY;
            // all that lie within the set, each lower than the one before, down to none
            for (int lost = set; lost >= 0; lost = lost == 0 ? NONE : lost - 1 & set) {
                if (costs[lost] < NO_WAY && least[set ^ lost] < NO_WAY) {
                    best = Math.min(best, costs[lost] + least[set ^ lost]);
                }
            }
            return best;
        }

        private static int digit(int dispute) {
            return 1 << 2 * (MOST_DISPUTES - 1 - dispute);
        }

        int oil() {
            return answer / WAYS;
        }

        int loserOf(int dispute) {
            return dispute >= 0 && dispute < MOST_DISPUTES ? answer / digit(dispute) % MOST_PEOPLE : NO_SUCH;
        }
    }
}
