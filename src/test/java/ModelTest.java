import java.util.ArrayList;
import java.util.List;
import java.util.Random;
import java.util.TreeMap;

/** Random runs of calls, each answer held against the model's. The seed is fixed: every run is the same. */
public final class ModelTest {
    private static final int CALLS = 512;

    private final Check check = new Check("ModelTest");
    private final TreeMap<String, TreeMap<Long, Integer>> seen = new TreeMap<>();
    private Random random;
    private RandomText draw;
    private WantOfAWant x;
    private Model m;
    private List<String> log;
    private int calls;
    private boolean off;
    private int bias;

    public static void main(String[] args) {
        int runs = args.length > 0 ? Integer.parseInt(args[0]) : 400;
        long seed = args.length > 1 ? Long.parseLong(args[1]) : 1;
        ModelTest test = new ModelTest();
        for (int i = 0; i < runs && !test.off; i++) {
            test.run(seed * 1000003 + i);
        }
        if (args.length > 2) {
            test.seen.forEach((k, v) -> System.out.println(k + " " + (v.size() > 16 ? v.size() + " unlike" : v)));
        }
        test.check.finish();
    }

    private void due(String call, long got, long want) {
        calls++;
        log.add(call + " -> " + got);
        String name = call.replaceFirst("\\(.*", call.startsWith("fault(0") ? "0" : "");
        seen.computeIfAbsent(name, k -> new TreeMap<>()).merge(want, 1, Integer::sum);
        if (got != want && !off) {
            off = true;
            log.forEach(System.out::println);
        }
        check.due(call, got, want);
    }

    private static long b(boolean is) {
        return is ? 1 : 0;
    }

    private int r(int lo, int hi) {
        return lo + random.nextInt(hi - lo + 1);
    }

    /** Mostly one of a range, now and then one beside it or far off. */
    private int about(int lo, int hi) {
        int k = random.nextInt(40);
        if (k == 0) {
            return lo - 1;
        }
        if (k == 1) {
            return hi + 1;
        }
        if (k == 2) {
            return random.nextInt();
        }
        return k == 3 ? hi : r(lo, hi);
    }

    private boolean yes() {
        return random.nextBoolean();
    }

    private void run(long seed) {
        random = new Random(seed);
        draw = new RandomText(random);
        x = new WantOfAWant();
        m = new Model();
        log = new ArrayList<>();
        log.add("seed " + seed);
        calls = 0;
        bias = random.nextInt(6);
        int hangings = random.nextInt(5) == 0 ? 66 : random.nextInt(25);
        for (int i = 0; i < hangings && !off; i++) {
            int a = r(0, 10);
            hang(a, r(a + 1, 11), true);
        }
        if (bias == 0) {
            toTheLastDay();
        }
        while (calls < CALLS - 40 && !off) {
            any();
        }
    }

    private void toTheLastDay() {
        int left = 9999 - r(0, 130);
        while (left > 0 && calls < 300) {
            int n = Math.min(60, left);
            due("day(" + n + ")", x.day(n), m.day(n));
            left -= n;
        }
    }

    private void hang(int a, int b, boolean does) {
        due("hang(" + a + ", " + b + ", " + does + ")", b(x.hang(a, b, does)), b(m.hang(a, b, does)));
    }

    private void any() {
        int k = random.nextInt(100);
        if (bias == 1 && k < 60) {
            looks();
        } else if (bias == 2 && k < 60) {
            deals();
        } else if (bias == 3 && k < 60) {
            texts();
            roomForTexts();
        } else if (k < 10) {
            told();
        } else if (k < 16) {
            texts();
        } else if (k < 50) {
            done();
        } else if (k < 73) {
            state();
        } else if (k < 85) {
            looks();
        } else if (k < 97) {
            deals();
        } else {
            imageOrBack();
        }
    }

    private void imageOrBack() {
        if (random.nextInt(3) > 0) {
            due("image()", x.image(), m.image());
        } else {
            due("back()", x.back(), m.back());
        }
    }

    /** With all four texts read, the image is gone back to; it was made with one of them at most. */
    private void roomForTexts() {
        if (m.about(1) <= 1 && yes()) {
            due("image()", x.image(), m.image());
        } else if (m.about(1) == 4 && random.nextInt(4) > 0) {
            due("back()", x.back(), m.back());
        }
    }

    private void told() {
        switch (random.nextInt(4)) {
            case 0: {
                int w = about(0, 11);
                int p = about(0, 99);
                due("pain(" + w + ", " + p + ")", b(x.pain(w, p)), b(m.pain(w, p)));
                break;
            }
            case 1: {
                hang(about(0, 11), about(0, 11), random.nextInt(3) > 0);
                break;
            }
            default: {
                int w = about(0, 11);
                int p = about(0, random.nextInt(3) == 0 ? 99 : 20);
                due("person(" + w + ", " + p + ")", x.person(w, p), m.person(w, p));
            }
        }
    }

    private void texts() {
        int k = random.nextInt(12);
        if (k < 8) {
            String text = draw.draw();
            log.add("text: " + text);
            due("end(0)", x.end(0), m.end(0));
            for (int at = 0; at < text.length(); at += 20) {
                int[] w = new int[5];
                for (int i = 0; i < 20; i++) {
                    w[i / 4] = w[i / 4] << 8 | (at + i < text.length() ? text.charAt(at + i) : r(0, 255));
                }
                feed(w);
            }
            due("end(" + text.length() + ")", x.end(text.length()), m.end(text.length()));
            due("text()", x.text(), m.text());
            due("fault(0)", x.fault(0), m.fault(0));
            due("fault(1)", x.fault(1), m.fault(1));
            due("about(5)", x.about(5), m.about(5));
            int t = m.about(1) - 1;
            if (t >= 0 && yes()) {
                due("by(" + t + ")", b(x.by(t)), b(m.by(t)));
            }
        } else if (k == 8) {
            feed(new int[] {random.nextInt(), random.nextInt(), 0x20202020, random.nextInt(), 0x61736b20});
        } else if (k == 9) {
            int n = about(0, 300);
            due("end(" + n + ")", x.end(n), m.end(n));
        } else if (k == 10) {
            due("text()", x.text(), m.text());
        } else {
            int t = about(-1, 3);
            due("by(" + t + ")", b(x.by(t)), b(m.by(t)));
        }
    }

    private void feed(int[] w) {
        due("feed(" + w[0] + ", " + w[1] + ", " + w[2] + ", " + w[3] + ", " + w[4] + ")",
                x.feed(w[0], w[1], w[2], w[3], w[4]), m.feed(w));
    }

    private void done() {
        int p = about(0, Math.max(0, m.about(0) - 1));
        int w = about(0, 11);
        switch (random.nextInt(11)) {
            case 0:
            case 1:
            case 2:
                due("ask(" + p + ")", x.ask(p), m.ask(p));
                break;
            case 3:
                due("give(" + p + ", " + w + ")", b(x.give(p, w)), b(m.give(p, w)));
                break;
            case 4:
            case 5:
                due("again(" + p + ", " + w + ")", b(x.again(p, w)), b(m.again(p, w)));
                break;
            case 6: {
                int n = yes() ? r(1, 3) : about(1, 60);
                due("day(" + n + ")", x.day(n), m.day(n));
                break;
            }
            case 7: {
                int t = about(0, 3);
                due("played(" + t + ")", x.played(t), m.played(t));
                break;
            }
            case 8: {
                int seed = about(0, 9999);
                int n = about(1, 40);
                due("years(" + seed + ", " + n + ")", x.years(seed, n), m.years(seed, n));
                break;
            }
            case 9: {
                int n = random.nextInt(8) == 0 ? 32 : 1;
                for (int i = 0; i < n; i++) {
                    due("undo()", x.undo(), m.undo());
                }
                break;
            }
            default:
                due("ask(" + p + ")", x.ask(p), m.ask(p));
        }
    }

    private void state() {
        int p = about(0, Math.max(0, m.about(0) - 1));
        int w = about(0, 11);
        switch (random.nextInt(9)) {
            case 0:
            case 1:
            case 2: {
                int what = about(0, 7);
                due("of(" + p + ", " + what + ")", x.of(p, what), m.of(p, what));
                break;
            }
            case 3: {
                int what = about(0, 3);
                due("ofWant(" + w + ", " + what + ")", x.ofWant(w, what), m.ofWant(w, what));
                break;
            }
            case 4:
                due("tells(" + p + ", " + w + ")", x.tells(p, w), m.tells(p, w));
                break;
            case 5: {
                int what = about(0, 3);
                due("is(" + what + ")", x.is(what), m.is(what));
                break;
            }
            case 6: {
                int i = random.nextInt(5) == 0 ? -1 : about(0, Math.max(0, m.book(-1, 0) - 1));
                int what = about(0, 3);
                due("book(" + i + ", " + what + ")", x.book(i, what), m.book(i, what));
                break;
            }
            case 7: {
                int what = about(0, 5);
                due("about(" + what + ")", x.about(what), m.about(what));
                break;
            }
            default: {
                int what = about(0, 1);
                due("fault(" + what + ")", x.fault(what), m.fault(what));
            }
        }
    }

    private void looks() {
        int p = about(0, Math.max(0, m.about(0) - 1));
        int a = about(0, 11);
        int b = about(yes() && a > 0 && a < 11 ? a : 0, 11);
        switch (random.nextInt(15)) {
            case 0: {
                int n = yes() ? r(1, 4) : about(1, 60);
                int what = about(0, 2);
                due("foretold(" + n + ", " + p + ", " + what + ")", x.foretold(n, p, what), m.foretold(n, p, what));
                break;
            }
            case 1:
                due("bottom(" + p + ")", x.bottom(p), m.bottom(p));
                break;
            case 2:
                due("ways(" + a + ", " + b + ")", x.ways(a, b), m.ways(a, b));
                break;
            case 3:
                due("must(" + a + ", " + b + ")", x.must(a, b), m.must(a, b));
                break;
            case 4:
                due("between(" + a + ", " + b + ")", x.between(a, b), m.between(a, b));
                break;
            case 5:
                due("heaviest(" + a + ", " + b + ")", x.heaviest(a, b), m.heaviest(a, b));
                break;
            case 6:
                due("under(" + a + ", " + b + ")", x.under(a, b), m.under(a, b));
                break;
            case 7:
                due("needless(" + a + ")", x.needless(a), m.needless(a));
                break;
            case 8:
                due("shared(" + a + ", " + b + ")", x.shared(a, b), m.shared(a, b));
                break;
            case 9: {
                boolean many = yes();
                due("apart(" + many + ")", x.apart(many), m.apart(many));
                break;
            }
            case 10:
                due("chains()", x.chains(), m.chains());
                break;
            case 11:
                due("levels()", x.levels(), m.levels());
                break;
            case 12: {
                int set = about(1, 4095);
                boolean first = yes();
                due("asked(" + set + ", " + first + ")", x.asked(set, first), m.asked(set, first));
                break;
            }
            default: {
                boolean pain = yes();
                due("cheap(" + a + ", " + b + ", " + pain + ")", x.cheap(a, b, pain), m.cheap(a, b, pain));
            }
        }
    }

    private void deals() {
        int p = about(0, 4);
        int q = about(0, 4);
        boolean is = yes();
        switch (random.nextInt(15)) {
            case 0:
            case 1:
            case 2: {
                boolean does = random.nextInt(4) > 0;
                due("offers(" + p + ", " + q + ", " + does + ")", b(x.offers(p, q, does)), b(m.offers(p, q, does)));
                break;
            }
            case 3:
                due("rings(" + is + ")", x.rings(is), m.rings(is));
                break;
            case 4:
                due("ring(" + p + ")", x.ring(p), m.ring(p));
                break;
            case 5: {
                int odds = about(0, 10);
                int cost = about(0, 99);
                due("grant(" + p + ", " + odds + ", " + cost + ")", b(x.grant(p, odds, cost)), b(m.grant(p, odds, cost)));
                break;
            }
            case 6: {
                int cost = about(0, yes() ? 60 : 495);
                due("budget(" + cost + ", " + is + ")", x.budget(cost, is), m.budget(cost, is));
                break;
            }
            case 7: {
                int odds = about(1, 10);
                due("enough(" + odds + ")", x.enough(odds), m.enough(odds));
                break;
            }
            case 8:
            case 9: {
                int who = random.nextInt(6) == 0 ? -1 : p;
                int needs = yes() && m.of(p, 6) != -1 ? m.of(p, 6) : about(-999, 999);
                due("said(" + who + ", " + needs + ")", x.said(who, needs), m.said(who, needs));
                break;
            }
            case 10:
                due("whose()", x.whose(), m.whose());
                break;
            case 11:
                due("saddest()", x.saddest(), m.saddest());
                break;
            case 12:
                due("plain()", x.plain(), m.plain());
                due("loose()", x.loose(), m.loose());
                break;
            case 13: {
                int w = about(0, 11);
                due("above(" + w + ")", x.above(w), m.above(w));
                break;
            }
            default:
                due("ledger(" + is + ")", x.ledger(is), m.ledger(is));
        }
    }
}
