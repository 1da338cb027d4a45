import java.nio.charset.StandardCharsets;
import java.util.ArrayList;
import java.util.List;
import java.util.Random;

/** Texts drawn by lot: most are whole, some have a token or a byte changed. */
final class TextByLot {
    private static final String[] NAMES =
        {"night", "lit", "number", "size", "oil", "slip", "wrong", "other", "against", "who"};
    private static final String[] TOKENS = {"night", "lit", "number", "size", "oil", "slip", "wrong", "other", "against",
        "who", "loses", "fills", "person", "turns", "argue", "pour", "snuff", "by", "to", "around", "of", "lamp", "if",
        "then", "else", "end", "or", "and", "not", "<=", ">=", "<", ">", "=", "#", "+", "-", "*", "/", "(", ")", ";",
        "0", "1", "9", "10", "60", "61", "9999", "10000", "99999999999", "Oil", "x", "!", "\t", "\u00e9", "007"};
    private static final String[] SIGNS = {"<", "<=", ">", ">=", "=", "#"};

    private final Random r;
    private final List<String> tokens = new ArrayList<>();
    private boolean inLoses;
    private int depth;

    private TextByLot(Random r) {
        this.r = r;
    }

    static byte[] make(Random r) {
        TextByLot t = new TextByLot(r);
        t.clauses();
        for (int i = r.nextInt(3) == 0 ? 1 + r.nextInt(2) : 0; i > 0 && !t.tokens.isEmpty(); i--) {
            t.change();
        }
        StringBuilder s = new StringBuilder();
        String before = ";";
        for (String token : t.tokens) {
            boolean close = isWord(before) && isWord(token) || isNumber(before) && isNumber(token);
            if (close || r.nextInt(5) == 0) s.append(r.nextInt(6) == 0 ? "\n" : " ");
            s.append(token);
            before = token;
        }
        if (r.nextInt(4) == 0) s.append("  ");
        byte[] whole = s.toString().getBytes(StandardCharsets.ISO_8859_1);
        return whole.length <= 300 ? whole : java.util.Arrays.copyOf(whole, 300);
    }

    private static boolean isWord(String token) {
        return Character.isLetter(token.charAt(0)) && token.charAt(0) < 128;
    }

    private static boolean isNumber(String token) {
        return Character.isDigit(token.charAt(0));
    }

    private void change() {
        int at = r.nextInt(tokens.size());
        switch (r.nextInt(4)) {
            case 0: tokens.remove(at); break;
            case 1: tokens.add(at, TOKENS[r.nextInt(TOKENS.length)]); break;
            case 2: tokens.set(at, TOKENS[r.nextInt(TOKENS.length)]); break;
            default:
                while (tokens.size() > at) tokens.remove(at);
        }
    }

    private void add(String... more) {
        tokens.addAll(List.of(more));
    }

    private String upTo(int high) {
        return Integer.toString(r.nextInt(40) == 0 ? high + 1 : r.nextInt(high + 1));
    }

    private void clauses() {
        List<Integer> order = new ArrayList<>();
        if (r.nextInt(3) > 0) order.add(0);
        if (r.nextInt(3) > 0) order.add(1);
        int more = r.nextInt(8) == 0 ? 26 : r.nextInt(6);
        for (int i = 0; i < more; i++) order.add(more > 20 ? 6 : 2 + r.nextInt(6));
        if (r.nextInt(30) == 0) order.add(r.nextInt(2));
        java.util.Collections.shuffle(order, r);
        for (int kind : order) clause(kind);
    }

    private void clause(int kind) {
        switch (kind) {
            case 0:
            case 1:
                inLoses = kind == 0;
                add(inLoses ? "loses" : "fills");
                depth = r.nextInt(7) == 0 ? 0 : 4 + r.nextInt(5);
                sum();
                break;
            case 2: add("person", upTo(99), "slip", upTo(10)); break;
            case 3: add("turns", upTo(9), "by", upTo(9)); break;
            case 4: add("argue", upTo(r.nextBoolean() ? 3 : 7), "by", upTo(3), "to", upTo(3)); break;
            case 5: add("pour", upTo(r.nextInt(3) == 0 ? 99 : 9), "by", upTo(3)); break;
            case 6: add("snuff", upTo(9)); break;
            default: add("night", upTo(r.nextBoolean() ? 3 : 60)); break;
        }
        add(";");
    }

    private void sum() {
        product();
        while (r.nextInt(4) == 0) {
            add(r.nextBoolean() ? "+" : "-");
            product();
        }
    }

    private void product() {
        one();
        while (r.nextInt(4) == 0) {
            add(r.nextBoolean() ? "*" : "/");
            one();
        }
    }

    private void one() {
        int kind = depth >= 8 && r.nextInt(12) > 0 ? r.nextInt(4) : r.nextInt(10);
        if (kind < 2) {
            add(r.nextInt(8) == 0 ? upTo(9999) : upTo(12));
        } else if (kind < 4) {
            add(NAMES[r.nextInt(40) == 0 ? r.nextInt(10) : r.nextInt(8)]);
            String name = tokens.get(tokens.size() - 1);
            if (name.equals("other") && !inLoses) tokens.set(tokens.size() - 1, "who");
            if (name.equals("slip") && inLoses && r.nextBoolean()) tokens.set(tokens.size() - 1, "against");
        } else {
            depth++;
            opened(kind);
            depth--;
        }
    }

    private void opened(int kind) {
        switch (kind) {
            case 4:
                add("-");
                one();
                break;
            case 5:
                add("(");
                sum();
                add(")");
                break;
            case 6:
                add("lamp");
                one();
                break;
            case 7:
                add("around");
                one();
                add("of");
                one();
                break;
            default:
                add("if");
                either();
                add("then");
                sum();
                add("else");
                sum();
                add("end");
                break;
        }
    }

    private void either() {
        ask();
        while (r.nextInt(3) == 0) {
            add(r.nextBoolean() ? "or" : "and");
            ask();
        }
    }

    private void ask() {
        if (r.nextInt(5) == 0 && (depth < 8 || r.nextInt(12) == 0)) {
            add("not");
            depth++;
            ask();
            depth--;
            return;
        }
        sum();
        add(SIGNS[r.nextInt(SIGNS.length)]);
        sum();
    }
}
