import java.util.ArrayList;
import java.util.Arrays;
import java.util.HashMap;
import java.util.HashSet;
import java.util.List;
import java.util.Map;
import java.util.Set;
import java.util.TreeSet;

/**
 * The document once more, written apart from the class and as simply as can be: sets, lists of all
 * ways, trees, all that could be tried. Random runs of calls are held against it.
 */
final class Model {
    static final int NONE = -1;

    static final class Person implements Cloneable {
        int want, how, tears, purse, answers, toldWant, toldPurse;
        TreeSet<Integer> gave = new TreeSet<>();

        Person(int want, int purse) {
            this.want = toldWant = want;
            this.purse = toldPurse = purse;
        }

        Person copy() {
            Person p = new Person(toldWant, toldPurse);
            p.want = want;
            p.how = how;
            p.tears = tears;
            p.purse = purse;
            p.answers = answers;
            p.gave = new TreeSet<>(gave);
            return p;
        }
    }

    static final class Hall {
        List<Person> persons = new ArrayList<>();
        List<int[]> book = new ArrayList<>();
        int day, granted, x = 251;

        Hall copy() {
            Hall h = new Hall();
            for (Person p : persons) {
                h.persons.add(p.copy());
            }
            h.book = new ArrayList<>(book);
            h.day = day;
            h.granted = granted;
            h.x = x;
            return h;
        }
    }

    static final class State {
        Hall hall = new Hall();
        List<Hall> steps = new ArrayList<>();
        int[] pain = new int[12];
        Set<Integer> hangs = new HashSet<>();
        List<ModelText> texts = new ArrayList<>();
        int ruling = NONE;
        boolean[][] offers = new boolean[5][5];
        int[] odds = {5, 5, 5, 5, 5};
        int[] costs = {10, 10, 10, 10, 10};
        List<int[]> said = new ArrayList<>();

        State copy() {
            State s = new State();
            s.hall = hall.copy();
            for (Hall h : steps) {
                s.steps.add(h.copy());
            }
            s.pain = pain.clone();
            s.hangs = new HashSet<>(hangs);
            s.texts = new ArrayList<>(texts);
            s.ruling = ruling;
            for (int i = 0; i < 5; i++) {
                s.offers[i] = offers[i].clone();
            }
            s.odds = odds.clone();
            s.costs = costs.clone();
            s.said = new ArrayList<>(said);
            return s;
        }
    }

    State s = new State();
    State kept;
    String tape = "";
    int fault = NONE;
    int place = NONE;
    boolean read;

    Model() {
        Arrays.fill(s.pain, 10);
        kept = s.copy();
    }

    // ---- wants

    static boolean in(int v, int lo, int hi) {
        return lo <= v && v <= hi;
    }

    boolean hangsOn(int a, int b) {
        return s.hangs.contains(a * 100 + b);
    }

    TreeSet<Integer> below(int a) {
        TreeSet<Integer> all = new TreeSet<>();
        for (int b = 0; b < 12; b++) {
            if (hangsOn(a, b)) {
                all.add(b);
                all.addAll(below(b));
            }
        }
        return all;
    }

    int depth(int a) {
        int d = 0;
        for (int b = 0; b < 12; b++) {
            if (hangsOn(a, b)) {
                d = Math.max(d, 1 + depth(b));
            }
        }
        return d;
    }

    static int bits(Iterable<Integer> set) {
        int n = 0;
        for (int i : set) {
            n += 1 << i;
        }
        return n;
    }

    static TreeSet<Integer> set(int bits) {
        TreeSet<Integer> all = new TreeSet<>();
        for (int i = 0; i < 12; i++) {
            if ((bits & 1 << i) != 0) {
                all.add(i);
            }
        }
        return all;
    }

    boolean pain(int want, int pain) {
        if (!in(want, 0, 11) || !in(pain, 0, 99)) {
            return false;
        }
        s.pain[want] = pain;
        return true;
    }

    boolean hang(int a, int b, boolean does) {
        if (!in(a, 0, 11) || !in(b, 0, 11) || b <= a || hangsOn(a, b) == does) {
            return false;
        }
        if (does) {
            s.hangs.add(a * 100 + b);
        } else {
            s.hangs.remove(a * 100 + b);
        }
        return true;
    }

    int person(int want, int purse) {
        if (!in(want, 0, 11) || !in(purse, 0, 99) || s.hall.persons.size() == 5) {
            return NONE;
        }
        s.hall.persons.add(new Person(want, purse));
        return s.hall.persons.size() - 1;
    }

    // ---- texts

    int feed(int... words) {
        if (tape.length() > 280) {
            return NONE;
        }
        StringBuilder more = new StringBuilder(tape);
        for (int w : words) {
            more.append((char) (w >>> 24)).append((char) (w >>> 16 & 255)).append((char) (w >>> 8 & 255)).append((char) (w & 255));
        }
        tape = more.toString();
        return tape.length();
    }

    int end(int n) {
        if (n < 0 || n > tape.length()) {
            return NONE;
        }
        tape = tape.substring(0, n);
        return n;
    }

    int text() {
        if (s.texts.size() == 4) {
            return NONE;
        }
        read = true;
        String bytes = tape;
        tape = "";
        try {
            ModelText t = new ModelText(bytes);
            fault = 0;
            place = NONE;
            s.texts.add(t);
            return s.texts.size() - 1;
        } catch (ModelText.Fault f) {
            fault = f.number;
            place = f.place;
            return NONE;
        }
    }

    int fault(int what) {
        return !read ? NONE : what == 0 ? fault : what == 1 ? place : NONE;
    }

    boolean by(int text) {
        if (text != NONE && !in(text, 0, s.texts.size() - 1)) {
            return false;
        }
        s.ruling = text;
        return true;
    }

    // ---- laws

    private Map<String, Long> names(Hall h, int who) {
        Person p = h.persons.get(who);
        Map<String, Long> m = new HashMap<>();
        m.put("day", (long) h.day);
        m.put("who", (long) who);
        m.put("tears", (long) p.tears);
        m.put("purse", (long) p.purse);
        m.put("answers", (long) p.answers);
        m.put("want", (long) p.want);
        m.put("given", (long) p.gave.size());
        return m;
    }

    private static int cut(long v, int by) {
        return (int) (v > by ? by : v < -by ? -by : v);
    }

    private int tellsIn(Hall h, int who, int next) {
        ModelText t = s.ruling == NONE ? null : s.texts.get(s.ruling);
        if (t == null || t.tells == null) {
            return s.pain[next];
        }
        Map<String, Long> m = names(h, who);
        m.put("next", (long) next);
        m.put("pain", (long) s.pain[next]);
        m.put("depth", (long) depth(next));
        return cut(t.tells.value(m, this), 999);
    }

    private int needsIn(ModelText t, Hall h, int who) {
        if (t == null || t.needs == null) {
            return h.persons.get(who).tears - 2 * h.persons.get(who).purse;
        }
        return cut(t.needs.value(names(h, who), this), 999);
    }

    private ModelText ruling() {
        return s.ruling == NONE ? null : s.texts.get(s.ruling);
    }

    // ---- what is done

    private boolean there(int person) {
        return in(person, 0, s.hall.persons.size() - 1);
    }

    private int goal(Hall h, int who) {
        Person p = h.persons.get(who);
        int best = NONE;
        for (int w = 11; w >= 0; w--) {
            if (hangsOn(p.want, w) && !p.gave.contains(w)
                    && (best == NONE || tellsIn(h, who, w) >= tellsIn(h, who, best))) {
                best = w;
            }
        }
        return best;
    }

    private int askIn(Hall h, int who) {
        Person p = h.persons.get(who);
        int to = goal(h, who);
        if (to != NONE) {
            p.want = to;
            p.tears = Math.min(999, p.tears + s.pain[to]);
            p.answers++;
            return to;
        }
        boolean yes = needsIn(ruling(), h, who) > 0;
        p.how = yes ? 1 : 2;
        if (yes) {
            h.granted++;
            p.purse = Math.min(99, p.purse + 10);
        }
        h.book.add(new int[] {h.day, who, p.want, yes ? 1 : 0});
        if (h.book.size() > 30) {
            h.book = new ArrayList<>(h.book.subList(1, 31));
        }
        return 12;
    }

    private void step() {
        s.steps.add(s.hall.copy());
        if (s.steps.size() > 30) {
            s.steps.remove(0);
        }
    }

    private static void anew(Hall h) {
        h.x = (h.x * 491 + 379) % 30677;
    }

    private int dayIn(Hall h) {
        int before = h.granted;
        for (int i = 0; i < h.persons.size(); i++) {
            if (h.persons.get(i).how == 0) {
                int d = h.x % 10;
                anew(h);
                if (d < 6) {
                    askIn(h, i);
                }
            }
        }
        h.day++;
        return h.granted - before;
    }

    int ask(int person) {
        if (!there(person) || s.hall.persons.get(person).how != 0) {
            return NONE;
        }
        step();
        return askIn(s.hall, person);
    }

    private boolean giveIn(Hall h, int person, int want, boolean really) {
        Person p = h.persons.get(person);
        if (p.how != 0 || p.want == want || p.gave.contains(want)) {
            return false;
        }
        if (really) {
            p.gave.add(want);
            p.tears = Math.min(999, p.tears + s.pain[want]);
        }
        return true;
    }

    boolean give(int person, int want) {
        if (!there(person) || !in(want, 0, 11) || !giveIn(s.hall, person, want, false)) {
            return false;
        }
        step();
        return giveIn(s.hall, person, want, true);
    }

    private void againIn(Hall h, int person, int want) {
        Person p = h.persons.get(person);
        p.want = want;
        p.how = 0;
        p.tears = 0;
        p.answers = 0;
        p.gave.clear();
    }

    boolean again(int person, int want) {
        if (!there(person) || !in(want, 0, 11) || s.hall.persons.get(person).how == 0) {
            return false;
        }
        step();
        againIn(s.hall, person, want);
        return true;
    }

    int day(int n) {
        if (!in(n, 1, 60) || s.hall.day + n > 9999) {
            return NONE;
        }
        int granted = 0;
        for (int i = 0; i < n; i++) {
            step();
            granted += dayIn(s.hall);
        }
        return granted;
    }

    int played(int text) {
        if (!in(text, 0, s.texts.size() - 1)) {
            return -2;
        }
        List<String[]> clauses = s.texts.get(text).clauses;
        for (int i = 0; i < clauses.size(); i++) {
            if (!play(clauses.get(i))) {
                return i;
            }
        }
        return NONE;
    }

    private boolean play(String[] c) {
        int a = c.length > 1 ? Integer.parseInt(c[1]) : 0;
        int b = c.length > 2 ? Integer.parseInt(c[2]) : 0;
        switch (c[0]) {
            case "pain":
                return pain(b, a);
            case "hang":
                return hang(a, b, true);
            case "person":
                return person(a, b) >= 0;
            case "ask":
                return ask(a) >= 0;
            case "give":
                return give(b, a);
            case "again":
                return again(b, a);
            case "day":
                for (int i = 0; i < a; i++) {
                    if (day(1) == NONE) {
                        return false;
                    }
                }
                return true;
            default:
                return true;
        }
    }

    int years(int seed, int n) {
        if (!in(seed, 0, 9999) || !in(n, 1, 40)) {
            return NONE;
        }
        step();
        Hall h = s.hall;
        h.x = seed * 2 + 251;
        for (int i = 0; i < n; i++) {
            int x = h.x;
            anew(h);
            if (x % 6 >= 4) {
                if (h.day < 9999) {
                    dayIn(h);
                }
            } else if (!h.persons.isEmpty()) {
                int who = x % h.persons.size();
                int want = x / 6 % 12;
                if (x % 6 <= 1 && h.persons.get(who).how == 0) {
                    askIn(h, who);
                } else if (x % 6 == 2) {
                    giveIn(h, who, want, true);
                } else if (x % 6 == 3 && h.persons.get(who).how != 0) {
                    againIn(h, who, want);
                }
            }
        }
        return h.day;
    }

    int undo() {
        if (s.steps.isEmpty()) {
            return NONE;
        }
        Hall h = s.steps.remove(s.steps.size() - 1);
        for (int i = h.persons.size(); i < s.hall.persons.size(); i++) {
            Person p = s.hall.persons.get(i);
            h.persons.add(new Person(p.toldWant, p.toldPurse));
        }
        s.hall = h;
        return s.steps.size();
    }

    // ---- what is so

    int of(int person, int what) {
        if (!there(person)) {
            return NONE;
        }
        Person p = s.hall.persons.get(person);
        int[] all = {p.want, p.how, p.tears, p.purse, bits(p.gave), p.answers,
            needsIn(ruling(), s.hall, person), goal(s.hall, person)};
        return in(what, 0, 7) ? all[what] : NONE;
    }

    int ofWant(int want, int what) {
        if (!in(want, 0, 11) || !in(what, 0, 3)) {
            return NONE;
        }
        int on = 0;
        for (int b = 0; b < 12; b++) {
            on += hangsOn(want, b) ? 1 << b : 0;
        }
        return new int[] {s.pain[want], on, bits(below(want)), depth(want)}[what];
    }

    int tells(int person, int want) {
        return there(person) && in(want, 0, 11) ? tellsIn(s.hall, person, want) : -1000;
    }

    int is(int what) {
        int wait = 0;
        for (int i = 0; i < s.hall.persons.size(); i++) {
            wait += s.hall.persons.get(i).how == 0 ? 1 << i : 0;
        }
        return in(what, 0, 3) ? new int[] {s.hall.day, s.hall.x, wait, s.hall.granted}[what] : -2;
    }

    int book(int i, int what) {
        if (i == NONE) {
            return s.hall.book.size();
        }
        return in(i, 0, s.hall.book.size() - 1) && in(what, 0, 3) ? s.hall.book.get(i)[what] : -2;
    }

    int foretold(int n, int person, int what) {
        if (!in(n, 1, 60) || !there(person) || !in(what, 0, 2)) {
            return NONE;
        }
        Hall h = s.hall.copy();
        for (int i = 0; i < n; i++) {
            if (h.day < 9999) {
                dayIn(h);
            }
        }
        Person p = h.persons.get(person);
        return new int[] {p.want, p.how, p.tears}[what];
    }

    int bottom(int person) {
        if (!there(person) || s.hall.persons.get(person).how != 0) {
            return NONE;
        }
        Hall h = s.hall.copy();
        int last = h.persons.get(person).want;
        for (int to = askIn(h, person); to != 12; to = askIn(h, person)) {
            last = to;
        }
        return last;
    }

    // ---- ways

    private List<List<Integer>> allWays(int a, int b) {
        List<List<Integer>> all = new ArrayList<>();
        if (a == b) {
            all.add(List.of(a));
            return all;
        }
        for (int c = a + 1; c <= b; c++) {
            if (hangsOn(a, c)) {
                for (List<Integer> rest : allWays(c, b)) {
                    List<Integer> way = new ArrayList<>();
                    way.add(a);
                    way.addAll(rest);
                    all.add(way);
                }
            }
        }
        return all;
    }

    private static boolean wants(int a, int b) {
        return in(a, 0, 11) && in(b, 0, 11);
    }

    long ways(int a, int b) {
        return wants(a, b) ? allWays(a, b).size() : NONE;
    }

    int must(int a, int b) {
        if (!wants(a, b) || allWays(a, b).isEmpty()) {
            return NONE;
        }
        TreeSet<Integer> all = set(4095);
        for (List<Integer> way : allWays(a, b)) {
            all.retainAll(way);
        }
        return bits(all);
    }

    int between(int a, int b) {
        if (!wants(a, b)) {
            return NONE;
        }
        TreeSet<Integer> any = new TreeSet<>();
        for (List<Integer> way : allWays(a, b)) {
            any.addAll(way);
        }
        return bits(any);
    }

    int heaviest(int a, int b) {
        int most = NONE;
        if (wants(a, b)) {
            for (List<Integer> way : allWays(a, b)) {
                int sum = -s.pain[a];
                for (int w : way) {
                    sum += s.pain[w];
                }
                most = Math.max(most, sum);
            }
        }
        return most;
    }

    int under(int top, int want) {
        if (!wants(top, want)) {
            return NONE;
        }
        TreeSet<Integer> found = new TreeSet<>();
        for (int w : below(top)) {
            boolean all = true;
            for (List<Integer> way : allWays(top, w)) {
                all &= way.contains(want);
            }
            if (all) {
                found.add(w);
            }
        }
        return bits(found);
    }

    int needless(int want) {
        if (!in(want, 0, 11)) {
            return NONE;
        }
        int found = 0;
        for (int a = 0; a < 12; a++) {
            boolean is = false;
            for (int b = 0; b < 12; b++) {
                is |= hangsOn(want, a) && hangsOn(want, b) && a != b && below(b).contains(a);
            }
            found += is ? 1 << a : 0;
        }
        return found;
    }

    int shared(int a, int b) {
        if (!wants(a, b)) {
            return NONE;
        }
        TreeSet<Integer> both = below(a);
        both.add(a);
        TreeSet<Integer> other = below(b);
        other.add(b);
        both.retainAll(other);
        TreeSet<Integer> top = new TreeSet<>(both);
        for (int w : both) {
            top.removeAll(below(w));
        }
        return bits(top);
    }

    int apart(boolean many) {
        int[] low = new int[12];
        for (int i = 0; i < 12; i++) {
            low[i] = bits(below(i));
        }
        int best = 0;
        for (int sets = 4095; sets > 0; sets--) {
            boolean ok = true;
            for (int w : set(sets)) {
                ok &= (low[w] & sets) == 0;
            }
            if (ok && Integer.bitCount(sets) >= Integer.bitCount(best)) {
                best = sets;
            }
        }
        return many ? Integer.bitCount(best) : best;
    }

    int chains() {
        // the most hangings of which no two begin or end at the same want, over all sets of ends
        int[] most = new int[4096];
        Arrays.fill(most, -99);
        most[0] = 0;
        for (int a = 0; a < 12; a++) {
            int[] next = most.clone();
            for (int ends = 0; ends < 4096; ends++) {
                for (int b = a + 1; b < 12; b++) {
                    if (hangsOn(a, b) && (ends & 1 << b) == 0) {
                        next[ends | 1 << b] = Math.max(next[ends | 1 << b], most[ends] + 1);
                    }
                }
            }
            most = next;
        }
        return 12 - Arrays.stream(most).max().getAsInt();
    }

    int levels() {
        int most = 0;
        for (int a = 0; a < 12; a++) {
            most = Math.max(most, depth(a) + 1);
        }
        return most;
    }

    private final Map<Integer, Integer> asked = new HashMap<>();

    private int fewest(int set, int[] reach) {
        if (Integer.bitCount(set) == 1) {
            return 0;
        }
        Integer known = asked.get(set);
        if (known == null) {
            known = 99;
            for (int q = 0; q < 12; q++) {
                known = Math.min(known, with(set, q, reach));
            }
            asked.put(set, known);
        }
        return known;
    }

    private int with(int set, int q, int[] reach) {
        int yes = set & reach[q];
        int no = set & ~reach[q];
        return yes == 0 || no == 0 ? 99 : 1 + Math.max(fewest(yes, reach), fewest(no, reach));
    }

    int asked(int wants, boolean first) {
        if (!in(wants, 1, 4095)) {
            return NONE;
        }
        int[] reach = new int[12];
        for (int q = 0; q < 12; q++) {
            reach[q] = bits(below(q)) | 1 << q;
        }
        asked.clear();
        int many = fewest(wants, reach);
        if (!first) {
            return many;
        }
        for (int q = 0; q < 12 && many > 0; q++) {
            if (with(wants, q, reach) == many) {
                return q;
            }
        }
        return NONE;
    }

    int cheap(int top, int want, boolean pain) {
        if (!wants(top, want) || top == want || hangsOn(top, want)) {
            return NONE;
        }
        List<Integer> masks = new ArrayList<>();
        for (List<Integer> way : allWays(top, want)) {
            masks.add(bits(way) & ~(1 << top) & ~(1 << want));
        }
        int best = -1;
        int bestPain = 0;
        for (int cut = 0; cut < 4096; cut++) {
            if ((cut & (1 << top | 1 << want)) != 0) {
                continue;
            }
            int sum = 0;
            for (int w : set(cut)) {
                sum += s.pain[w];
            }
            boolean ok = true;
            for (int m : masks) {
                ok &= (m & cut) != 0;
            }
            if (ok && (best == -1 || sum < bestPain
                    || sum == bestPain && Integer.bitCount(cut) < Integer.bitCount(best))) {
                best = cut;
                bestPain = sum;
            }
        }
        return pain ? bestPain : best;
    }

    // ---- dealings

    boolean offers(int a, int b, boolean does) {
        if (!in(a, 0, 4) || !in(b, 0, 4) || a == b || s.offers[a][b] == does) {
            return false;
        }
        s.offers[a][b] = does;
        return true;
    }

    private int[] bestRings() {
        int[] best = {5, 5, 5, 5, 5};
        int most = 0;
        for (int code = 0; code < 7776; code++) {
            int[] gets = new int[5];
            int rest = code;
            for (int i = 4; i >= 0; i--) {
                gets[i] = rest % 6;
                rest /= 6;
            }
            int many = 0;
            boolean ok = true;
            for (int i = 0; i < 5 && ok; i++) {
                if (gets[i] == 5) {
                    continue;
                }
                many++;
                int second = gets[i];
                int third = gets[second];
                ok = second != i && s.offers[i][second] && third != 5 && (third == i || third != second && gets[third] == i);
            }
            // codes come in the order of the wish, so that the first of those with most is it
            if (ok && many > most) {
                most = many;
                best = gets;
            }
        }
        return best;
    }

    int rings(boolean many) {
        int in = 0;
        int[] best = bestRings();
        for (int i = 0; i < 5; i++) {
            in += best[i] == 5 ? 0 : 1 << i;
        }
        return many ? Integer.bitCount(in) : in;
    }

    int ring(int person) {
        return in(person, 0, 4) && bestRings()[person] != 5 ? bestRings()[person] : NONE;
    }

    boolean grant(int person, int odds, int cost) {
        if (!in(person, 0, 4) || !in(odds, 0, 10) || !in(cost, 0, 99)) {
            return false;
        }
        s.odds[person] = odds;
        s.costs[person] = cost;
        return true;
    }

    /** By costs, one person behind the other: how likely each cost is. */
    private long[] likely() {
        long[] at = new long[496];
        at[0] = 1;
        for (int i = 0; i < s.hall.persons.size(); i++) {
            long[] next = new long[496];
            for (int c = 0; c < 496; c++) {
                if (at[c] != 0) {
                    next[c] += at[c] * (10 - s.odds[i]);
                    next[c + s.costs[i]] += at[c] * s.odds[i];
                }
            }
            at = next;
        }
        return at;
    }

    long budget(int cost, boolean low) {
        if (!in(cost, 0, 495)) {
            return NONE;
        }
        long up = 0;
        long[] at = likely();
        for (int c = 0; c <= cost; c++) {
            up += at[c];
        }
        long down = (long) Math.pow(10, s.hall.persons.size());
        for (int p : new int[] {2, 2, 2, 2, 2, 5, 5, 5, 5, 5}) {
            if (up % p == 0 && down % p == 0) {
                up /= p;
                down /= p;
            }
        }
        return low ? down : up;
    }

    int enough(int odds) {
        if (!in(odds, 1, 10)) {
            return NONE;
        }
        for (int c = 0;; c++) {
            if (budget(c, false) * 10 >= odds * budget(c, true)) {
                return c;
            }
        }
    }

    int said(int person, int needs) {
        if (person == NONE) {
            s.said.clear();
            return 0;
        }
        if (!there(person) || !in(needs, -999, 999) || s.said.size() == 8) {
            return -2;
        }
        s.said.add(new int[] {person, needs});
        return s.said.size();
    }

    int whose() {
        int found = 0;
        for (int t = 0; t < s.texts.size(); t++) {
            boolean all = true;
            for (int[] one : s.said) {
                all &= needsIn(s.texts.get(t), s.hall, one[0]) == one[1];
            }
            found += all ? 1 << t : 0;
        }
        return found;
    }

    int saddest() {
        int most = 0;
        for (Person p : s.hall.persons) {
            most = Math.max(most, p.tears);
        }
        for (int i = 0; i < s.hall.persons.size(); i++) {
            if (most > 0 && s.hall.persons.get(i).tears == most) {
                return i;
            }
        }
        return NONE;
    }

    int plain() {
        int found = 0;
        for (int a = 0; a < 12; a++) {
            found += below(a).isEmpty() ? 1 << a : 0;
        }
        return found;
    }

    int loose() {
        int found = 0;
        for (int a = 0; a < 12; a++) {
            found += above(a) == 0 ? 1 << a : 0;
        }
        return found;
    }

    int above(int want) {
        if (!in(want, 0, 11)) {
            return NONE;
        }
        int found = 0;
        for (int a = 0; a < 12; a++) {
            found += below(a).contains(want) ? 1 << a : 0;
        }
        return found;
    }

    int ledger(boolean granted) {
        int many = 0;
        for (int[] e : s.hall.book) {
            many += e[3] == (granted ? 1 : 0) ? 1 : 0;
        }
        return many;
    }

    int image() {
        kept = s.copy();
        return s.hall.day;
    }

    int back() {
        s = kept.copy();
        return s.hall.day;
    }

    int about(int what) {
        int[] all = {s.hall.persons.size(), s.texts.size(), s.ruling, s.steps.size(), s.said.size(), tape.length()};
        return in(what, 0, 5) ? all[what] : -2;
    }
}
