import java.util.ArrayList;
import java.util.List;

/**
 * What tests by sentence share. Each begins with the document's own words, on a new object; answers are
 * held against numbers found by hand from these words, not against the model.
 */
abstract class Sentences {
    static final int NONE = WantOfAWant.NONE;
    static final int[] FAR = {
        Integer.MIN_VALUE, Integer.MIN_VALUE + 1, -65536, -10000, -4096, -1000, -64, -33, -32, -31, -20, -13, -12, -5, -4, -3, -2, -1,
        5, 6, 7, 8, 10, 11, 12, 13, 16, 31, 32, 33, 37, 43, 44, 60, 61, 64, 99, 100, 256, 300, 301, 495, 496, 4095, 4096, 4097, 9999,
        10000, 65536, 1 << 30, Integer.MAX_VALUE - 1, Integer.MAX_VALUE};

    interface Call {
        long answer(WantOfAWant x, int v);
    }

    private final Doc doc;
    private final Check check;
    private String words = "";
    private int answers;
    WantOfAWant x;

    Sentences(Doc doc, Check check) {
        this.doc = doc;
        this.check = check;
    }

    abstract void all();

    /** Begins the test of a sentence; the one ahead must have held an answer against something. */
    final void says(int section, String sentence) {
        ended();
        doc.quote(section, sentence);
        words = (section > 0 ? "promise " + section + ": " : "") + sentence;
        fresh();
    }

    final void ended() {
        check.due("answers looked at for: " + words, words.isEmpty() || answers > 0, true);
        words = "";
        answers = 0;
    }

    final void due(String what, long got, long want) {
        answers++;
        check.due("[" + words + "] " + what, got, want);
    }

    final void due(String what, boolean got, boolean want) {
        due(what, got ? 1 : 0, want ? 1 : 0);
    }

    final void fresh() {
        x = new WantOfAWant();
    }

    static long b(boolean is) {
        return is ? 1 : 0;
    }

    static int bits(int... all) {
        int sum = 0;
        for (int i : all) {
            sum |= 1 << i;
        }
        return sum;
    }

    static int anew(int lot) {
        return (lot * 491 + 379) % 30677;
    }

    final void hangs(int... pairs) {
        for (int i = 0; i + 1 < pairs.length; i += 2) {
            x.hang(pairs[i], pairs[i + 1], true);
        }
    }

    final int reads(String text) {
        return Check.read(x, text);
    }

    /** Reads a text and makes it rule. */
    final void rules(String text) {
        x.by(reads(text));
    }

    /** 9999 needs 167 calls. */
    final void toDay(int day) {
        for (int left = day - x.is(0); left > 0; left -= 60) {
            x.day(Math.min(60, left));
        }
    }

    /**
     * With something of everything: 0 waits at 2, 1 was granted at 7, 2 was shown the door at 8, 3 waits at 4; two texts,
     * the first of which rules; nine steps; a tape of forty bytes; a fault; an image that is unlike.
     */
    static WantOfAWant town() {
        WantOfAWant t = new WantOfAWant();
        int[] pairs = {0, 1, 1, 2, 2, 5, 5, 11, 0, 3, 3, 5, 4, 6, 6, 7, 0, 2};
        for (int i = 0; i < pairs.length; i += 2) {
            t.hang(pairs[i], pairs[i + 1], true);
        }
        t.pain(2, 17);
        t.pain(7, 60);
        t.day(3);
        t.years(7, 2);
        t.person(0, 5);
        t.person(6, 1);
        Check.read(t, "tells pain; needs tears - purse;");
        t.by(0);
        t.ask(0);
        t.image();
        t.person(8, 9);
        t.person(4, 0);
        t.ask(1);
        t.ask(1);
        t.ask(2);
        t.give(3, 9);
        Check.read(t, "person 1 purse 2; day 1; hang 0 on 1;");
        Check.read(t, "ask 9");
        Check.load(t, "needs 1;                                ");
        t.said(0, 12);
        t.said(3, 10);
        t.offers(0, 4, true);
        t.offers(4, 0, true);
        t.offers(1, 2, true);
        t.grant(0, 3, 20);
        t.grant(4, 9, 1);
        return t;
    }

    /** All that can be seen of an object, what its steps and its image bring again too. It is spent then. */
    static List<Long> seen(WantOfAWant x) {
        List<Long> all = new ArrayList<>();
        look(x, all);
        for (int i = 0; i < 31; i++) {
            all.add((long) x.undo());
            for (int p = 0; p < 2 && i % 4 == 0; p++) {
                all.add((long) x.of(p, 0));
                all.add((long) x.of(p, 2));
            }
        }
        look(x, all);
        all.add((long) x.back());
        look(x, all);
        return all;
    }

    private static void look(WantOfAWant x, List<Long> all) {
        for (int i = 0; i < 4; i++) {
            all.add((long) x.is(i));
        }
        for (int i = 0; i < 6; i++) {
            all.add((long) x.about(i));
        }
        for (int p = 0; p < x.about(0); p++) {
            for (int what = 0; what < 7; what++) {
                all.add((long) x.of(p, what));
            }
        }
        for (int want = 0; want < 12; want++) {
            all.add((long) x.ofWant(want, 0));
            all.add((long) x.ofWant(want, 1));
        }
        for (int p = 0; p < 5; p++) {
            all.add((long) x.ring(p));
        }
        int booked = x.book(NONE, 0);
        all.add((long) booked);
        for (int i = Math.max(0, booked - 3); i < booked; i++) {
            all.add((long) x.book(i, 0) * 1000 + x.book(i, 1) * 100 + x.book(i, 2) * 2 + x.book(i, 3));
        }
        for (int cost = 0; cost < 40; cost += 10) {
            all.add(x.budget(cost, false));
        }
        all.add((long) x.whose());
        all.add((long) x.fault(0));
        all.add((long) x.fault(1));
    }

    /** Both ends of a range are taken; what lies beside or far off it is refused so, and changes nothing. */
    final void range(String what, int least, int most, long refused, Call call) {
        due(what + " " + least + " is taken", call.answer(town(), least) != refused, true);
        due(what + " " + most + " is taken", call.answer(town(), most) != refused, true);
        WantOfAWant t = town();
        refuse(t, what, least - 1, refused, call);
        refuse(t, what, most + 1, refused, call);
        for (int far : FAR) {
            if (far < least || far > most) {
                refuse(t, what, far, refused, call);
            }
        }
        due(what + " refused: nothing is changed", seen(t).equals(seen(town())), true);
    }

    private void refuse(WantOfAWant t, String what, int v, long refused, Call call) {
        due(what + " " + v, call.answer(t, v), refused);
    }
}
