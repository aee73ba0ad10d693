import java.util.ArrayList;
import java.util.List;

/** A TEXT read by recursion, for Model. */
final class Law {
    static final List<String> NAMES = List.of("age", "kin", "craft", "place", "month", "under");
    static final List<String> SORTS = List.of("lasts", "people", "may", "vote", "order", "heir", "council", "fix", "leave");
    static final List<String> SIGNS = List.of("<=", ">=", "<", ">", "=", "#", "+", "-", "*", "/", "(", ")", ",", ";");

    interface Sum { int of(int[] names); }

    static final class Clause {
        String sort;
        Sum either;
        List<String> keys = new ArrayList<>();
        int number;
    }

    static final class Fault extends RuntimeException {
        final int which;
        final int place;

        Fault(int which, int place) { super(null, null, false, false); this.which = which; this.place = place; }
    }

    final List<Clause> clauses = new ArrayList<>();
    int fault;
    int place = -1;

    private final List<String> tokens = new ArrayList<>();
    private final List<Integer> places = new ArrayList<>();
    private int at;
    private int depth;

    Law(List<Integer> bytes) {
        split(bytes);
        try {
            while (!token().isEmpty()) clauses.add(clause());
        } catch (Fault f) {
            fault = f.which;
            place = f.place;
        }
    }

    private void split(List<Integer> bytes) {
        StringBuilder b = new StringBuilder();
        for (int v : bytes) b.append((char) v);
        String text = b.toString();
        int i = 0;
        while (i < text.length()) {
            String rest = text.substring(i);
            String token = null;
            if (rest.charAt(0) == ' ' || rest.charAt(0) == '\n') { i++; continue; }
            java.util.regex.Matcher run = java.util.regex.Pattern.compile("[a-zA-Z]+|[0-9]+").matcher(rest);
            if (run.lookingAt()) token = run.group();
            for (String sign : SIGNS) if (token == null && rest.startsWith(sign)) token = sign;
            if (token == null) token = "?";
            tokens.add(token);
            places.add(i);
            i += token.length();
        }
        tokens.add("");
        places.add(text.length());
    }

    private String token() { return tokens.get(at); }

    private Fault fault(int which) { return new Fault(which, places.get(at)); }

    private boolean is(String t) { return token().equals(t); }

    private boolean number() { return !token().isEmpty() && Character.isDigit(token().charAt(0)); }

    private int value(int most) {
        java.math.BigInteger v = new java.math.BigInteger(token());
        if (v.compareTo(java.math.BigInteger.valueOf(most)) > 0) throw fault(2);
        at++;
        return v.intValue();
    }

    private void need(String t) {
        if (!is(t)) throw fault(1);
        at++;
    }

    private Clause clause() {
        Clause c = new Clause();
        c.sort = token();
        int sort = SORTS.indexOf(c.sort);
        if (sort < 0) throw fault(1);
        if (sort >= 4 && has(c.sort)) throw fault(4);
        if (clauses.size() == 20) throw fault(5);
        at++;
        if (sort < 4) {
            c.either = either();
        } else if (sort < 6) {
            key(c);
            while (is(",")) { at++; key(c); }
        } else {
            if (!number()) throw fault(1);
            c.number = value(sort == 6 ? 100 : sort == 7 ? 599 : 1000);
        }
        need(";");
        return c;
    }

    private void key(Clause c) {
        boolean minus = is("-");
        if (!minus && !NAMES.contains(token())) throw fault(1);
        if (c.keys.size() == 4) throw fault(5);
        if (minus) at++;
        if (!NAMES.contains(token())) throw fault(1);
        c.keys.add((minus ? "-" : "") + token());
        at++;
    }

    private void deeper() {
        if (depth == 8) throw fault(3);
        depth++;
        at++;
    }

    private Sum either() {
        Sum left = both();
        while (is("or")) {
            at++;
            Sum a = left, b = both();
            left = n -> a.of(n) + b.of(n) > 0 ? 1 : 0;
        }
        return left;
    }

    private Sum both() {
        Sum left = ask();
        while (is("and")) {
            at++;
            Sum a = left, b = ask();
            left = n -> a.of(n) * b.of(n);
        }
        return left;
    }

    private Sum ask() {
        if (is("not")) {
            deeper();
            Sum a = ask();
            depth--;
            return n -> a.of(n) == 0 ? 1 : 0;
        }
        Sum a = sum();
        String how = token();
        if (!List.of("<", "<=", ">", ">=", "=", "#").contains(how)) throw fault(1);
        at++;
        Sum b = sum();
        return n -> {
            int c = Integer.compare(a.of(n), b.of(n));
            switch (how) {
                case "<": return c < 0 ? 1 : 0;
                case "<=": return c <= 0 ? 1 : 0;
                case ">": return c > 0 ? 1 : 0;
                case ">=": return c >= 0 ? 1 : 0;
                case "=": return c == 0 ? 1 : 0;
                default: return c != 0 ? 1 : 0;
            }
        };
    }

    private Sum sum() {
        Sum left = product();
        while (is("+") || is("-")) {
            boolean plus = is("+");
            at++;
            Sum a = left, b = product();
            left = n -> bounded(plus ? (long) a.of(n) + b.of(n) : (long) a.of(n) - b.of(n));
        }
        return left;
    }

    private Sum product() {
        Sum left = one();
        while (is("*") || is("/")) {
            boolean times = is("*");
            at++;
            Sum a = left, b = one();
            left = n -> times ? bounded((long) a.of(n) * b.of(n)) : b.of(n) == 0 ? 0 : a.of(n) / b.of(n);
        }
        return left;
    }

    private Sum one() {
        if (number()) {
            int v = value(9999);
            return n -> v;
        }
        int name = NAMES.indexOf(token());
        if (name >= 0) {
            at++;
            return n -> n[name];
        }
        if (!is("(") && !is("-")) throw fault(1);
        boolean minus = is("-");
        deeper();
        Sum a = minus ? one() : sum();
        if (!minus) need(")");
        depth--;
        return minus ? n -> -a.of(n) : a;
    }

    private static int bounded(long v) { return (int) Math.max(-1000000000L, Math.min(1000000000L, v)); }

    boolean has(String sort) {
        for (Clause c : clauses) if (c.sort.equals(sort)) return true;
        return false;
    }

    private Clause first(String sort) {
        for (Clause c : clauses) if (c.sort.equals(sort)) return c;
        return null;
    }

    int why(String sort, int[] names) {
        for (int i = 0; i < clauses.size(); i++) {
            if (clauses.get(i).sort.equals(sort) && clauses.get(i).either.of(names) == 1) return i;
        }
        return -1;
    }

    int number(String sort) { return first(sort).number; }

    List<String> keys(String sort) { return first(sort).keys; }
}
