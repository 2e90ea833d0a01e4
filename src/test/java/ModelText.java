import java.util.ArrayList;
import java.util.List;
import java.util.Map;
import java.util.Set;
import java.util.TreeMap;

/** A text as the model reads it: straight from its signs, into trees. */
final class ModelText {
    interface Sum {
        long value(Map<String, Long> names, Model model);
    }

    static final class Fault extends Exception {
        final int number;
        final int place;

        Fault(int number, int place) {
            this.number = number;
            this.place = place;
        }
    }

    private static final Set<String> BOTH = Set.of("day", "who", "tears", "purse", "answers", "want", "given");
    private static final Set<String> TELLS = Set.of("next", "pain", "depth");

    final List<String[]> clauses = new ArrayList<>();
    Sum tells;
    Sum needs;

    private final String text;
    private int from;
    private String token;
    private boolean telling;
    private final List<String> open = new ArrayList<>();

    ModelText(String text) throws Fault {
        this.text = text;
        next(0);
        while (!token.isEmpty()) {
            clause();
        }
    }

    /** Goes to the first token at a place or behind it; an empty one is the end. */
    private void next(int at) {
        while (at < text.length() && (text.charAt(at) == 32 || text.charAt(at) == 10)) {
            at++;
        }
        from = at;
        String rest = text.substring(at);
        String found = rest.replaceFirst("(?s)^([a-zA-Z]+|[0-9]+|<=|>=|.).*$", "$1");
        token = rest.isEmpty() ? "" : found;
    }

    private void go() {
        next(from + token.length());
    }

    private Fault fault(int number) {
        return new Fault(number, from);
    }

    private void want(String what) throws Fault {
        if (!token.equals(what)) {
            throw fault(1);
        }
        go();
    }

    private int number(int lo, int hi) throws Fault {
        if (!token.matches("[0-9]+")) {
            throw fault(1);
        }
        java.math.BigInteger n = new java.math.BigInteger(token);
        if (n.compareTo(java.math.BigInteger.valueOf(lo)) < 0 || n.compareTo(java.math.BigInteger.valueOf(hi)) > 0) {
            throw fault(2);
        }
        go();
        return n.intValue();
    }

    private void clause() throws Fault {
        // word: link, least and most of the first, most of the second
        Map<String, Object[]> deeds = new TreeMap<>();
        deeds.put("pain", new Object[] {"of", 0, 99, 11});
        deeds.put("hang", new Object[] {"on", 0, 11, 11});
        deeds.put("person", new Object[] {"purse", 0, 11, 99});
        deeds.put("ask", new Object[] {"", 0, 4, 0});
        deeds.put("give", new Object[] {"by", 0, 11, 4});
        deeds.put("again", new Object[] {"by", 0, 11, 4});
        deeds.put("day", new Object[] {"", 1, 60, 0});
        String word = token;
        boolean law = word.equals("tells") || word.equals("needs");
        if (!law && !deeds.containsKey(word)) {
            throw fault(1);
        }
        if (word.equals("tells") && tells != null || word.equals("needs") && needs != null) {
            throw fault(4);
        }
        if (clauses.size() == 24) {
            throw fault(6);
        }
        go();
        if (law) {
            telling = word.equals("tells");
            Sum sum = sum();
            if (telling) {
                tells = sum;
            } else {
                needs = sum;
            }
            want(";");
            clauses.add(new String[] {word});
            return;
        }
        Object[] form = deeds.get(word);
        int first = number((Integer) form[1], (Integer) form[2]);
        int second = 0;
        if (!form[0].equals("")) {
            want((String) form[0]);
            second = number(0, (Integer) form[3]);
        }
        want(";");
        clauses.add(new String[] {word, String.valueOf(first), String.valueOf(second)});
    }

    private static long cut(long v) {
        return Math.max(-1000000L, Math.min(1000000L, v));
    }

    private Sum sum() throws Fault {
        Sum left = product();
        while (token.equals("+") || token.equals("-")) {
            boolean plus = token.equals("+");
            go();
            Sum a = left;
            Sum b = product();
            left = (n, m) -> cut(a.value(n, m) + (plus ? b.value(n, m) : -b.value(n, m)));
        }
        return left;
    }

    private Sum product() throws Fault {
        Sum left = one();
        while (token.equals("*") || token.equals("/")) {
            boolean times = token.equals("*");
            go();
            Sum a = left;
            Sum b = one();
            left = (n, m) -> {
                long x = a.value(n, m);
                long y = b.value(n, m);
                if (times) {
                    return cut(x * y);
                }
                return y == 0 ? 0 : Math.abs(x) / Math.abs(y) * Long.signum(x) * Long.signum(y);
            };
        }
        return left;
    }

    private void open() throws Fault {
        if (open.size() == 8) {
            throw fault(3);
        }
        open.add(token);
        go();
    }

    private void close() {
        open.remove(open.size() - 1);
    }

    private Sum one() throws Fault {
        if (token.matches("[0-9]+")) {
            long n = number(0, 9999);
            return (names, m) -> n;
        }
        if (BOTH.contains(token) || TELLS.contains(token)) {
            String name = token;
            if (TELLS.contains(name) && !telling) {
                throw fault(5);
            }
            go();
            return (names, m) -> names.get(name);
        }
        Sum a;
        switch (token) {
            case "(":
                open();
                a = sum();
                want(")");
                close();
                return a;
            case "-":
                open();
                a = one();
                close();
                return (n, m) -> -a.value(n, m);
            case "within":
                open();
                a = one();
                want("of");
                Sum b = one();
                close();
                return (n, m) -> {
                    long size = Math.max(0, b.value(n, m));
                    return Math.max(-size, Math.min(size, a.value(n, m)));
                };
            case "below":
                open();
                a = one();
                close();
                return (n, m) -> {
                    long w = a.value(n, m);
                    return w < 0 || w > 11 ? 0 : m.below((int) w).size();
                };
            case "if":
                open();
                Sum c = either();
                want("then");
                Sum yes = sum();
                want("else");
                Sum no = sum();
                want("end");
                close();
                return (n, m) -> c.value(n, m) == 1 ? yes.value(n, m) : no.value(n, m);
            default:
                throw fault(1);
        }
    }

    private Sum either() throws Fault {
        Sum left = both();
        while (token.equals("or")) {
            go();
            Sum a = left;
            Sum b = both();
            left = (n, m) -> Math.max(a.value(n, m), b.value(n, m));
        }
        return left;
    }

    private Sum both() throws Fault {
        Sum left = askOne();
        while (token.equals("and")) {
            go();
            Sum a = left;
            Sum b = askOne();
            left = (n, m) -> Math.min(a.value(n, m), b.value(n, m));
        }
        return left;
    }

    private Sum askOne() throws Fault {
        if (token.equals("not")) {
            open();
            Sum a = askOne();
            close();
            return (n, m) -> 1 - a.value(n, m);
        }
        Sum a = sum();
        String sign = token;
        if (!Set.of("<", "<=", ">", ">=", "=", "#").contains(sign)) {
            throw fault(1);
        }
        go();
        Sum b = sum();
        return (n, m) -> {
            int c = Long.compare(a.value(n, m), b.value(n, m));
            boolean is = sign.equals("<") ? c < 0 : sign.equals("<=") ? c <= 0 : sign.equals(">") ? c > 0
                    : sign.equals(">=") ? c >= 0 : sign.equals("=") ? c == 0 : c != 0;
            return is ? 1 : 0;
        };
    }
}
