import java.util.ArrayList;
import java.util.List;
import java.util.Map;
import java.util.Set;

/** A text as the model reads it: the tokens are cut as they are asked for, laws become trees of functions. */
public final class ModelText {
    interface Sum {
        int of(Map<String, Integer> names, boolean[] lit);
    }

    interface Ask {
        boolean of(Map<String, Integer> names, boolean[] lit);
    }

    static final class Fault extends RuntimeException {
        private static final long serialVersionUID = 1L;
        final int number;
        final int place;

        Fault(int number, int place) {
            super(null, null, false, false);
            this.number = number;
            this.place = place;
        }
    }

    static final Set<String> BOTH = Set.of("night", "lit", "number", "size", "oil", "slip", "wrong");
    static final Set<String> NAMES = Set.of("night", "lit", "number", "size", "oil", "slip", "wrong", "other", "against", "who");

    Sum loses;
    Sum fills;
    final List<int[]> clauses = new ArrayList<>();

    private int[] bytes;
    private int at;
    private String token;   // "" at the end, "?" if it is none
    private int place;
    private int open;

    /** {fault, place} */
    int[] read(int[] tape) {
        bytes = tape;
        try {
            next();
            while (!token.isEmpty()) clause();
        } catch (Fault f) {
            return new int[] {f.number, f.place};
        }
        return new int[] {0, -1};
    }

    private void next() {
        while (at < bytes.length && (bytes[at] == 32 || bytes[at] == 10)) at++;
        place = at;
        StringBuilder rest = new StringBuilder();
        for (int i = at; i < bytes.length; i++) rest.append((char) bytes[i]);
        java.util.regex.Matcher m = java.util.regex.Pattern
            .compile("[a-zA-Z]+|[0-9]+|<=|>=|[<>=#+*/();-]").matcher(rest);
        if (rest.length() == 0) {
            token = "";
        } else if (m.lookingAt()) {
            token = m.group();
            at += token.length();
        } else {
            token = "?";
            at++;
        }
    }

    private Fault fault(int number) {
        return new Fault(number, place);
    }

    private void take(String wanted) {
        if (!token.equals(wanted)) throw fault(1);
        next();
    }

    private int number(int low, int high) {
        if (!token.matches("[0-9]+")) throw fault(1);
        java.math.BigInteger n = new java.math.BigInteger(token);
        if (n.compareTo(java.math.BigInteger.valueOf(low)) < 0 || n.compareTo(java.math.BigInteger.valueOf(high)) > 0) throw fault(2);
        next();
        return n.intValueExact();
    }

    private void clause() {
        String kind = token;
        if (!Set.of("loses", "fills", "person", "turns", "argue", "pour", "snuff", "night").contains(kind)) throw fault(1);
        if (kind.equals("loses") && loses != null || kind.equals("fills") && fills != null) throw fault(4);
        if (clauses.size() == 24) throw fault(6);
        next();
        int[] c = {0, 0, 0, 0};
        switch (kind) {
            case "loses" -> loses = sum(true);
            case "fills" -> fills = sum(false);
            case "person" -> {
                c[0] = 'p';
                c[1] = number(0, 99);
                take("slip");
                c[2] = number(0, 10);
            }
            case "turns" -> {
                c[0] = 't';
                c[1] = number(0, 9);
                take("by");
                c[2] = number(0, 9);
            }
            case "argue" -> {
                c[0] = 'a';
                c[1] = number(0, 7);
                take("by");
                c[2] = number(0, 3);
                take("to");
                c[3] = number(0, 3);
            }
            case "pour" -> {
                c[0] = 'o';
                c[1] = number(1, 99);
                take("by");
                c[2] = number(0, 3);
            }
            case "snuff" -> {
                c[0] = 's';
                c[1] = number(0, 9);
            }
            default -> {
                c[0] = 'n';
                c[1] = number(1, 60);
            }
        }
        take(";");
        clauses.add(c);
    }

    private static int cut(long v) {
        return (int) Math.max(-1000000L, Math.min(1000000L, v));
    }

    private Sum sum(boolean inLoses) {
        Sum left = product(inLoses);
        while (token.equals("+") || token.equals("-")) {
            long sign = token.equals("+") ? 1 : -1;
            next();
            Sum one = left;
            Sum two = product(inLoses);
            left = (n, l) -> cut(one.of(n, l) + sign * two.of(n, l));
        }
        return left;
    }

    private Sum product(boolean inLoses) {
        Sum left = one(inLoses);
        while (token.equals("*") || token.equals("/")) {
            boolean times = token.equals("*");
            next();
            Sum one = left;
            Sum two = one(inLoses);
            left = (n, l) -> {
                long a = one.of(n, l);
                long b = two.of(n, l);
                return times ? cut(a * b) : b == 0 ? 0 : cut(a / b);
            };
        }
        return left;
    }

    private void opened() {
        if (open == 8) throw fault(3);
        open++;
        next();
    }

    private Sum one(boolean inLoses) {
        String first = token;
        if (first.matches("[0-9]+")) {
            int value = number(0, 9999);
            return (n, l) -> value;
        }
        if (NAMES.contains(first)) {
            boolean here = BOTH.contains(first) || inLoses != first.equals("who");
            if (!here) throw fault(5);
            next();
            return (n, l) -> n.get(first);
        }
        if (!Set.of("(", "-", "lamp", "around", "if").contains(first)) throw fault(1);
        opened();
        Sum found;
        if (first.equals("(")) {
            found = sum(inLoses);
            if (!token.equals(")")) throw fault(1);
            open--;
            next();
            return found;
        } else if (first.equals("-")) {
            Sum a = one(inLoses);
            found = (n, l) -> -a.of(n, l);
        } else if (first.equals("lamp")) {
            Sum a = one(inLoses);
            found = (n, l) -> {
                int i = a.of(n, l);
                return i >= 0 && i < 10 && l[i] ? 1 : 0;
            };
        } else if (first.equals("around")) {
            Sum a = one(inLoses);
            take("of");
            Sum b = one(inLoses);
            found = (n, l) -> {
                int i = a.of(n, l);
                int k = b.of(n, l);
                if (i < 0 || i > 9 || k < 0 || k > 9) return 0;
                int up = (i - k + 10) % 10;
                int down = (k - i + 10) % 10;
                return Math.min(up, down);
            };
        } else {
            Ask a = either(inLoses);
            take("then");
            Sum b = sum(inLoses);
            take("else");
            Sum c = sum(inLoses);
            if (!token.equals("end")) throw fault(1);
            next();
            found = (n, l) -> a.of(n, l) ? b.of(n, l) : c.of(n, l);
        }
        open--;
        return found;
    }

    private Ask either(boolean inLoses) {
        Ask left = both(inLoses);
        while (token.equals("or")) {
            next();
            Ask one = left;
            Ask two = both(inLoses);
            left = (n, l) -> one.of(n, l) | two.of(n, l);
        }
        return left;
    }

    private Ask both(boolean inLoses) {
        Ask left = ask(inLoses);
        while (token.equals("and")) {
            next();
            Ask one = left;
            Ask two = ask(inLoses);
            left = (n, l) -> one.of(n, l) & two.of(n, l);
        }
        return left;
    }

    private Ask ask(boolean inLoses) {
        if (token.equals("not")) {
            opened();
            Ask inner = ask(inLoses);
            open--;
            return (n, l) -> !inner.of(n, l);
        }
        Sum left = sum(inLoses);
        String sign = token;
        if (!Set.of("<", "<=", ">", ">=", "=", "#").contains(sign)) throw fault(1);
        next();
        Sum right = sum(inLoses);
        return (n, l) -> {
            int c = Integer.compare(left.of(n, l), right.of(n, l));
            return switch (sign) {
                case "<" -> c < 0;
                case "<=" -> c <= 0;
                case ">" -> c > 0;
                case ">=" -> c >= 0;
                case "=" -> c == 0;
                default -> c != 0;
            };
        };
    }
}
