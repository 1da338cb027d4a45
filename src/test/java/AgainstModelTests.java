import java.lang.reflect.InvocationTargetException;
import java.lang.reflect.Method;
import java.nio.ByteBuffer;
import java.nio.charset.StandardCharsets;
import java.util.Arrays;
import java.util.HashMap;
import java.util.Map;
import java.util.Random;

/** Runs of 512 calls drawn by lot, each call answered by the class and by the model alike. */
public final class AgainstModelTests {
    static final int RUNS = 400;
    static final int TEXTS = 20000;
    static final int CALLS = 512;
    static final int[] EDGES = {Integer.MIN_VALUE, Integer.MAX_VALUE, -100, -2, 10, 11, 100, 1024, 9999, 10000, 65536};

    /** A call, how likely it is drawn, and a letter for each argument. */
    static final String[] CALLS_DRAWN = {
        "person 3 os", "dispute 5 L", "TEXT 6", "feed 1 iiiii", "end 1 e", "text 1", "fault 2 w", "by 6 t",
        "argue 14 dpp", "pour 5 pq", "snuff 5 l", "night 4 n", "played 5 t", "years 4 Sy", "undo 8", "of 6 pw",
        "lamps 2 d", "is 8 w", "loses 8 dpp", "fills 8 dp", "book 8 kw", "foretold 5 nw", "rank 2", "bring 4 Lb",
        "ways 3 L", "weight 2", "reach 3 w", "pattern 3 l", "kernel 3 k", "basis 2", "spare 3 d", "nearest 4 L",
        "street 4 L", "lights 5 b", "bill 6 Dd", "war 3 ppmb", "rest 3 ppmb", "verdict 5 pb", "belief 5 b",
        "lit 3 mlb", "dark 3 mb", "mean 3 mb", "game 3 b", "whodid 4 mb", "stretches 3", "stretch 4 b", "said 6 dpf",
        "whose 6", "blaze 3 b", "surest 2", "poorest 3", "solvent 4", "fool 3", "ledger 3 p", "image 1", "back 2",
        "about 6 w"};

    static int wrong = 0;

    public static void main(String[] args) throws Exception {
        Map<String, Method> real = methods(LitByLosers.class);
        Map<String, Method> model = methods(Model.class);
        String[] drawn = spread();
        for (int seed = 0; seed < RUNS && wrong < 10; seed++) {
            run(seed, drawn, real, model);
        }
        for (int seed = 0; seed < TEXTS && wrong < 10; seed++) {
            text(seed);
        }
        System.out.println(wrong == 0 ? "all answers are those of the model" : wrong + " answers are not those of the model");
        if (wrong != 0) System.exit(1);
    }

    static Map<String, Method> methods(Class<?> type) {
        Map<String, Method> found = new HashMap<>();
        for (Method m : type.getDeclaredMethods()) {
            if (java.lang.reflect.Modifier.isPublic(m.getModifiers())) found.put(m.getName(), m);
        }
        return found;
    }

    static String[] spread() {
        StringBuilder all = new StringBuilder();
        for (String c : CALLS_DRAWN) {
            for (int i = Integer.parseInt(c.split(" ")[1]); i > 0; i--) all.append(c).append('\n');
        }
        return all.toString().split("\n");
    }

    static void run(int seed, String[] drawn, Map<String, Method> real, Map<String, Method> model) throws Exception {
        Random r = new Random(seed);
        LitByLosers x = new LitByLosers();
        Model y = new Model();
        StringBuilder told = new StringBuilder();
        int men = r.nextInt(8) == 0 ? r.nextInt(2) : 2 + r.nextInt(3);
        int quarrels = r.nextInt(8) == 0 ? r.nextInt(2) : 1 + r.nextInt(8);
        boolean imageEarly = r.nextInt(4) > 0;
        for (int call = 0; call < CALLS; call++) {
            String name;
            Object[] given;
            if (call < men) {
                name = "person";
                given = new Object[] {r.nextInt(100), r.nextInt(11)};
            } else if (call < men + quarrels) {
                name = "dispute";
                given = new Object[] {r.nextInt(3) == 0 ? 1 << r.nextInt(10) : r.nextInt(r.nextBoolean() ? 16 : 1024)};
            } else if (call == men + quarrels && imageEarly) {
                name = "image";
                given = new Object[0];
            } else if (seed % 8 == 7 && call < men + quarrels + 170) {
                name = "night";
                given = new Object[] {60};
            } else {
                String[] parts = drawn[r.nextInt(drawn.length)].split(" ");
                name = parts[0];
                if (name.equals("TEXT")) {
                    call += feedBoth(x, y, TextByLot.make(r)) - 1;
                    name = "text";
                    given = new Object[0];
                } else {
                    given = arguments(r, parts.length > 2 ? parts[2] : "", y);
                }
            }
            told.append(name).append(Arrays.toString(given)).append(' ');
            Object due = model.get(name).invoke(y, given);
            Object got;
            try {
                got = real.get(name).invoke(x, given);
            } catch (InvocationTargetException e) {
                got = e.getCause();
            }
            if (!due.equals(got)) {
                wrong++;
                System.out.println("run " + seed + ", call " + call + ": " + name + Arrays.toString(given) + " answered " + got
                    + ", due is " + due + (told.length() < 2000 ? "\n  " + told : ""));
                return;
            }
        }
    }

    static int feedBoth(LitByLosers x, Model y, byte[] text) {
        int calls = 1;
        x.end(0);
        y.end(0);
        byte[] whole = Arrays.copyOf(text, (text.length + 19) / 20 * 20);
        ByteBuffer b = ByteBuffer.wrap(whole);
        while (b.hasRemaining()) {
            int[] v = {b.getInt(), b.getInt(), b.getInt(), b.getInt(), b.getInt()};
            int had = x.feed(v[0], v[1], v[2], v[3], v[4]);
            if (had != y.feed(v[0], v[1], v[2], v[3], v[4])) wrong++;
            calls++;
        }
        if (x.end(text.length) != y.end(text.length)) wrong++;
        return calls + 1;
    }

    static Object[] arguments(Random r, String letters, Model y) {
        Object[] given = new Object[letters.length()];
        for (int i = 0; i < given.length; i++) {
            char letter = letters.charAt(i);
            given[i] = letter == 'b' ? (Object) r.nextBoolean()
                : r.nextInt(60) == 0 ? (Object) EDGES[r.nextInt(EDGES.length)] : (Object) argument(r, letter, y);
        }
        return given;
    }

    static int argument(Random r, char letter, Model y) {
        switch (letter) {
            case 'o': return r.nextInt(101);
            case 's': return r.nextInt(12);
            case 'L': return r.nextInt(20) == 0 ? -1 : r.nextBoolean() ? y.is(2) ^ 1 << r.nextInt(10) : r.nextInt(1025);
            case 'i': return r.nextInt();
            case 'e': return r.nextInt(302);
            case 'w': return r.nextInt(10) - 1;
            case 't': return r.nextInt(6) - 1;
            case 'd': return r.nextInt(8) == 0 ? r.nextInt(10) - 1 : r.nextInt(Math.max(1, y.about(1)));
            case 'p': return r.nextInt(8) == 0 ? r.nextInt(6) - 1 : r.nextInt(Math.max(1, y.about(0)));
            case 'q': return r.nextInt(201) - 100;
            case 'l': return r.nextInt(12) - 1;
            case 'n': return r.nextBoolean() ? 1 + r.nextInt(4) : r.nextInt(62);
            case 'S': return r.nextInt(10001);
            case 'y': return r.nextInt(42);
            case 'k': return r.nextInt(27) - 1;
            case 'D': return r.nextInt(1 << y.about(1));
            case 'm': return r.nextInt(10) - 1;
            default: return r.nextInt(11) - 1;
        }
    }

    static void text(int seed) {
        Random r = new Random(seed * 31L + 7);
        LitByLosers x = new LitByLosers();
        Model y = new Model();
        byte[] text = TextByLot.make(r);
        feedBoth(x, y, text);
        int got = x.text();
        if (got != y.text() || x.fault(0) != y.fault(0) || x.fault(1) != y.fault(1)) {
            wrong++;
            System.out.println("text " + seed + ": fault " + x.fault(0) + " at " + x.fault(1) + ", due is " + y.fault(0)
                + " at " + y.fault(1) + ": " + new String(text, StandardCharsets.ISO_8859_1));
        }
    }
}
