/** The promises, one by one: what each call answers, and what it refuses. */
final class CallSentences extends Sentences {
    private static final int FALSE = 0;
    private static final int OTHER = -2;

    CallSentences(Doc doc, Check check) {
        super(doc, check);
    }

    @Override
    void all() {
        newObject();
        told();
        tape();
        text();
        fault();
        by();
        ask();
        giveAndAgain();
        day();
        played();
        years();
        undo();
        of();
        ofWantAndTells();
        isAndBook();
        coming();
        ways();
        sets();
        askedAndCheap();
        offersAndRings();
        grants();
        laws();
        small();
        image();
        about();
    }

    private void newObject() {
        says(1, "Nobody;");
        due("persons", x.about(0), 0);
        due("nobody waits", x.is(2), 0);
        due("the first isn't there", x.of(0, 0), NONE);
        due("texts", x.about(1), 0);
        due("the text", x.about(2), NONE);
        due("steps", x.about(3), 0);
        due("said", x.about(4), 0);
        due("tape", x.about(5), 0);
        due("nothing is read", x.fault(0), NONE);
        due("day", x.is(0), 0);
        due("x", x.is(1), 251);
        due("granted", x.is(3), 0);
        due("book", x.book(NONE, 0), 0);
        due("no offers", x.rings(true), 0);

        says(1, "THE IMAGE is this.");
        Check.load(x, "needs 1;");
        x.text();
        x.by(0);
        x.person(3, 3);
        x.pain(3, 3);
        x.hang(3, 4, true);
        x.ask(0);
        x.day(60);
        x.years(9, 9);
        x.said(0, 0);
        x.offers(0, 1, true);
        x.offers(1, 0, true);
        x.grant(0, 10, 99);
        due("back: day", x.back(), 0);
        due("back: persons", x.about(0), 0);
        due("back: texts", x.about(1), 0);
        due("back: the text", x.about(2), NONE);
        due("back: steps", x.about(3), 0);
        due("back: said", x.about(4), 0);
        due("back: pain", x.ofWant(3, 0), 10);
        due("back: hangings", x.plain(), 4095);
        due("back: x", x.is(1), 251);
        due("back: book", x.book(NONE, 0), 0);
        due("back: offers", x.rings(true), 0);
        x.person(0, 0);
        due("back: grants", x.budget(10, false) * 10 + x.budget(9, true), 12);
        due("back: no step", x.undo(), NONE);
    }

    private void told() {
        says(2, "PAIN: true.");
        due("told", x.pain(5, 77), true);
        due("it is", x.ofWant(5, 0), 77);
        due("the same anew", x.pain(5, 77), true);
        due("another stays", x.ofWant(4, 0) + x.ofWant(6, 0), 20);
        says(2, "False for others.");
        range("want", 0, 11, FALSE, (t, v) -> b(t.pain(v, 50)));
        range("pain", 0, 99, FALSE, (t, v) -> b(t.pain(3, v)));

        says(3, "HANGS told: true.");
        due("does", x.hang(0, 1, true), true);
        due("it is so", x.ofWant(0, 1), 2);
        due("does no more", x.hang(0, 1, false), true);
        due("it isn't", x.ofWant(0, 1), 0);
        due("the last", x.hang(10, 11, true), true);
        says(3, "False for others (b not above a), and if it is so.");
        range("a", 0, 10, FALSE, (t, v) -> b(t.hang(v, 11, true)));
        range("b", 1, 11, FALSE, (t, v) -> b(t.hang(0, v, v != 1)));
        range("b above a", 7, 11, FALSE, (t, v) -> b(t.hang(6, v, v != 7)));
        due("not so: taken off", x.hang(0, 1, false), false);
        x.hang(0, 1, true);
        due("so: told", x.hang(0, 1, true), false);
        due("so yet", x.ofWant(0, 1), 2);
        due("itself", x.hang(3, 3, true), false);
        due("itself, taken off", x.hang(3, 3, false), false);
        due("up, taken off", x.hang(1, 0, false), false);

        says(4, "A PERSON: the number.");
        due("first", x.person(0, 0), 0);
        due("second", x.person(11, 99), 1);
        says(4, "NONE for others, or if there are 5.");
        range("want", 0, 11, NONE, (t, v) -> t.person(v, 0));
        range("purse", 0, 99, NONE, (t, v) -> t.person(0, v));
        for (int p = 0; p < 5; p++) {
            due("there is room", x.person(p, p), p);
        }
        due("there are 5", x.person(0, 0), NONE);
        due("5 yet", x.about(0), 5);
        due("the last as it was", x.of(4, 3), 4);
    }

    private void tape() {
        says(5, "Twenty bytes come behind the tape, the highest of a first: how many it has.");
        for (int i = 1; i <= 15; i++) {
            due("so many", x.feed(-1, -1, -1, -1, -1), i * 20);
        }
        fresh();
        // one byte after the other is the first that is no token
        for (int at = 0; at < 20; at++) {
            x.end(0);
            int[] w = {0x20202020, 0x20202020, 0x20202020, 0x20202020, 0x20202020};
            w[at / 4] ^= 0xff << 24 - 8 * (at % 4);
            x.feed(0x20202020, 0x20202020, 0x20202020, 0x20202020, 0x20202020);
            x.feed(w[0], w[1], w[2], w[3], w[4]);
            x.text();
            due("behind the tape, byte " + at, x.fault(1), 20 + at);
        }
        says(5, "NONE, and none come, if there would be more than 300.");
        for (int i = 0; i < 14; i++) {
            x.feed(0x20202020, 0x20202020, 0x20202020, 0x20202020, 0x20202020);
        }
        x.end(280);
        due("just 300", x.feed(0x20202020, 0x20202020, 0x20202020, 0x20202020, 0x20202020), 300);
        due("full", x.feed(0, 0, 0, 0, 0), NONE);
        due("none came", x.about(5), 300);
        for (int n = 299; n > 280; n--) {
            x.end(n);
            due("too few are free, " + n, x.feed(0, 0, 0, 0, 0), NONE);
            due("none came, " + n, x.about(5), n);
        }
        due("what was there is as it was", x.text(), 0);

        says(6, "The tape has its first n bytes alone: n.");
        Check.load(x, "ask 0; foo");
        due("cut", x.end(6), 6);
        due("so many", x.about(5), 6);
        due("its first", x.text(), 0);
        Check.load(x, "ask 0;");
        due("all of it", x.end(6), 6);
        due("as it is", x.text(), 1);
        Check.load(x, "foo");
        due("none", x.end(0), 0);
        due("empty", x.text(), 2);
        due("none of none", x.end(0), 0);
        fresh();
        Check.load(x, "ask 12;");
        x.end(5);
        x.text();
        due("cut within a number: what was behind isn't read", x.fault(0) * 100 + x.fault(1), 105);
        Check.load(x, "needs tears;");
        x.end(8);
        x.text();
        due("cut within a word: what was behind isn't read", x.fault(0) * 100 + x.fault(1), 106);
        Check.load(x, "needs if 1<=2 then 1 else 2 end;");
        x.end(11);
        x.feed(0x20202032, 0x20746865, 0x6e203120, 0x656c7365, 0x20322020);
        x.feed(0x656e643b, 0x20202020, 0x20202020, 0x20202020, 0x20202020);
        due("what is fed comes behind what was left", x.text(), 0);
        x.person(0, 0);
        x.by(0);
        due("1 < 2", x.of(0, 6), 1);
        says(6, "NONE, and nothing is done, if it has not so many, or n is below 0.");
        range("n", 0, 40, NONE, (t, v) -> t.end(v));
        due("one of none", x.end(1), NONE);
        Check.load(x, "ask 0;");
        due("one too many", x.end(7), NONE);
        due("as it was", x.about(5), 6);
        due("below 0", x.end(-1), NONE);
        due("as it was yet", x.text(), 0);
    }

    private void text() {
        says(7, "The tape (empty then) is a TEXT: its number.");
        Check.load(x, "day 1;");
        for (int i = 0; i < 4; i++) {
            due("its number", x.text(), i);
            due("empty then", x.about(5), 0);
            due("there are", x.about(1), i + 1);
        }
        due("the first has it", x.played(0) * 100 + x.is(0), -99);
        due("the second was empty", x.played(1) * 100 + x.is(0), -99);
        says(7, "NONE: it has a FAULT;");
        due("a fault", reads("foo"), NONE);
        due("no text", x.about(1), 0);
        due("the tape is empty then", x.about(5), 0);
        due("what comes then is read alone", reads("day 2;"), 0);
        due("a fault at its end", reads("needs 5; day 7; day 9; day 3"), NONE);
        due("one text yet", x.about(1), 1);
        due("the next", reads("day 3;"), 1);
        due("nothing is left of the one with a fault", x.played(1) * 100 + x.is(0), -97);
        x.by(1);
        x.person(0, 1);
        due("nor of its law", x.of(0, 6), -2);
        fresh();
        x.person(0, 0);
        reads("needs ((((((((1 foo");
        due("nor of what was open", reads("needs ((((((((7))))))));"), 0);
        reads("needs " + "1+".repeat(147));
        due("nor of its length", reads("needs " + "1+".repeat(140) + "1;"), 1);
        x.by(1);
        due("a long one", x.of(0, 6), 141);
        reads("tells 3; foo");
        reads("needs -1; foo");
        due("a short one", reads("needs 5;"), 2);
        x.by(2);
        due("its own law alone", x.of(0, 6), 5);
        due("no law of tells", x.tells(0, 0), 10);
        says(7, "or (the tape stays) there are 4.");
        for (int i = 0; i < 4; i++) {
            due("one more", reads("day 1;"), i);
        }
        Check.load(x, "day 5;");
        due("there are 4", x.text(), NONE);
        due("the tape stays", x.about(5), 6);
        due("4 yet", x.about(1), 4);
        Check.load(x, "foo");
        due("a fault, and there are 4", x.text(), NONE);
        due("the tape stays, too", x.about(5), 3);
        Check.load(x, "day 5;");
        x.back();
        due("it was there yet", x.text(), 0);
        due("as it was", x.played(0) * 100 + x.is(0), -95);
        reads("day 6; day 7; day 8;");
        x.back();
        due("where longer ones were", reads("day 2;") * 10 + reads(""), 1);
        due("nothing is left of those", x.played(0) * 100 + x.is(0), -98);
        due("nor there", x.played(1) * 100 + x.is(0), -98);
    }

    private void fault() {
        says(8, "Of the latest text that was read: 0 its FAULT (0 without), 1 its place (NONE without).");
        reads("ask 5");
        due("a fault", x.fault(0), 2);
        due("its place", x.fault(1), 4);
        reads("day 1;");
        due("without", x.fault(0), 0);
        due("no place", x.fault(1), NONE);
        reads("foo");
        due("at the first byte", x.fault(1), 0);
        x.text();
        due("an empty one", x.fault(0), 0);
        x.text();
        x.text();
        due("four", x.about(1), 4);
        reads("foo");
        due("it wasn't read: there are 4", x.fault(0), 0);
        due("no place of it", x.fault(1), NONE);
        says(8, "NONE for others, and ahead of any.");
        due("ahead of any", x.fault(0), NONE);
        due("ahead of any, its place", x.fault(1), NONE);
        due("ahead of any, others", x.fault(2), NONE);
        Check.load(x, "foo");
        due("on the tape it isn't read yet", x.fault(0), NONE);
        range("what", 0, 1, NONE, (t, v) -> t.fault(v));
    }

    private void by() {
        says(9, "THE TEXT (NONE: none): true.");
        due("none, as it is", x.by(NONE), true);
        reads("");
        due("the first", x.by(0), true);
        due("it is", x.about(2), 0);
        due("again", x.by(0), true);
        due("none", x.by(NONE), true);
        due("none is", x.about(2), NONE);
        says(9, "False for others.");
        range("text", NONE, 1, FALSE, (t, v) -> b(t.by(v)));
        due("none is there", x.by(0), false);
        for (int i = 0; i < 4; i++) {
            due("not there yet", x.by(i), false);
            x.text();
            due("it is there", x.by(i), true);
        }
        due("4", x.by(4), false);
        due("the last rules", x.about(2), 3);
    }

    private void ask() {
        says(10, "ASKED: the WANT it is at then (granted or shown the side door: 12).");
        hangs(0, 11);
        x.person(0, 0);
        x.person(0, 99);
        due("the want", x.ask(0), 11);
        due("granted", x.ask(0), 12);
        due("it is", x.of(0, 1), 1);
        x.ask(1);
        due("the door", x.ask(1), 12);
        due("it was", x.of(1, 1), 2);
        due("it is at the last want yet", x.of(1, 0), 11);
        says(10, "NONE, if it can't be, and for others.");
        range("person", 0, 3, NONE, (t, v) -> t.ask(v));
        x = town();
        due("granted", x.ask(1), NONE);
        due("shown the door", x.ask(2), NONE);
        due("not there", x.ask(4), NONE);
        due("nothing is changed", seen(x).equals(seen(town())), true);
    }

    private void giveAndAgain() {
        says(11, "GIVEN UP: true.");
        x.person(3, 0);
        due("the first", x.give(0, 0), true);
        due("the last", x.give(0, 11), true);
        due("both", x.of(0, 4), bits(0, 11));
        says(11, "False, if it can't be, and for others.");
        range("person", 0, 3, FALSE, (t, v) -> b(t.give(v, 0)));
        range("want", 0, 11, FALSE, (t, v) -> b(t.give(3, v)));
        x = town();
        due("granted", x.give(1, 0), false);
        due("shown the door", x.give(2, 0), false);
        due("its own want", x.give(0, 2), false);
        due("given up", x.give(3, 9), false);
        due("not there", x.give(4, 0), false);
        due("nothing is changed", seen(x).equals(seen(town())), true);

        says(12, "COMES AGAIN: true.");
        x.person(3, 0);
        x.ask(0);
        due("again", x.again(0, 3), true);
        due("it waits", x.is(2), 1);
        says(12, "False, if it can't be, and for others.");
        range("person", 1, 2, FALSE, (t, v) -> b(t.again(v, 0)));
        range("want", 0, 11, FALSE, (t, v) -> b(t.again(1, v)));
        x = town();
        due("it waits", x.again(0, 0), false);
        due("it waits, too", x.again(3, 4), false);
        due("not there", x.again(4, 0), false);
        due("nothing is changed", seen(x).equals(seen(town())), true);
    }

    private void day() {
        says(13, "DAYS pass (1 .. 60): how many are granted in them.");
        due("one", x.day(1), 0);
        due("it passed", x.is(0), 1);
        due("sixty", x.day(60), 0);
        due("they passed", x.is(0), 61);
        for (int p = 0; p < 5; p++) {
            x.person(p, 0);
            if (p < 3) {
                x.give(p, 11);
            }
        }
        due("three have tears", x.day(60), 3);
        due("nobody waits", x.is(2), 0);
        due("three in all", x.is(3), 3);
        due("none is left", x.day(60), 0);
        for (int p = 0; p < 5; p++) {
            x.again(p, 0);
        }
        rules("needs 1;");
        due("all five", x.day(60), 5);
        due("in these alone", x.is(3), 8);
        says(13, "NONE for others, or beyond 9999 (nothing is done then).");
        range("n", 1, 60, NONE, (t, v) -> t.day(v));
        toDay(9940);
        x.person(0, 0);
        int steps = x.about(3);
        due("sixty would be beyond", x.day(60), NONE);
        due("nothing is done", x.is(0), 9940);
        due("nobody is asked", x.of(0, 1), 0);
        due("nothing is drawn", x.is(1), 251);
        due("no step", x.about(3), steps);
        due("59 are not", x.day(59), 0);
        due("9999", x.is(0), 9999);
        due("one more is", x.day(1), NONE);
    }

    private void played() {
        says(14, "PLAYED by a TEXT: NONE: all is done; else the number of the CLAUSE that can't be.");
        reads("person 0 purse 0; needs 1; day 1; ask 0;");
        due("the last can't be: by day 1 it was gone", x.played(0), 3);
        reads("pain 3 of 3;");
        due("all is done", x.played(1), NONE);
        reads("ask 4; pain 4 of 4;");
        due("the first can't be", x.played(2), 0);
        due("the second isn't done", x.ofWant(4, 0), 10);
        says(14, "-2 for others.");
        range("text", 0, 1, OTHER, (t, v) -> t.played(v));
        due("none is there", x.played(0), OTHER);
        due("NONE", x.played(NONE), OTHER);
        reads("foo");
        due("one with a fault isn't there", x.played(0), OTHER);
    }

    private void years() {
        says(15, "YEARS: DAY.");
        int lot = 251;
        int days = 0;
        for (int n = 1; n <= 12; n++) {
            days += lot % 6 >= 4 ? 1 : 0;
            lot = anew(lot);
            fresh();
            due("n " + n, x.years(0, n), days);
            due("it is", x.is(0), days);
        }
        x.day(60);
        due("from the day on that is", x.years(0, 12), 60 + 2 * days);
        says(15, "NONE for others.");
        range("seed", 0, 9999, NONE, (t, v) -> t.years(v, 5));
        range("n", 1, 40, NONE, (t, v) -> t.years(5, v));
        due("both", x.years(-1, 41), NONE);
        due("no step", x.about(3), 0);
    }

    private void undo() {
        says(16, "The latest STEP is taken back: how many can be yet.");
        x.person(0, 0);
        x.give(0, 5);
        x.give(0, 6);
        due("one yet", x.undo(), 1);
        due("the latest", x.of(0, 4), bits(5));
        due("none yet", x.undo(), 0);
        due("the first too", x.of(0, 4), 0);
        says(16, "NONE: there is none.");
        due("at first", x.undo(), NONE);
        x.person(0, 0);
        x.pain(1, 1);
        due("told things are none", x.undo(), NONE);
        due("they stay", x.about(0), 1);
        x.day(60);
        for (int i = 0; i < 30; i++) {
            due("there are", x.undo() >= 0, true);
        }
        due("thirty were taken back", x.undo(), NONE);
        due("nothing more is changed", x.is(0), 30);
        due("none yet", x.undo(), NONE);
        x.day(1);
        due("a new one", x.undo(), 0);
    }

    private void of() {
        says(17, "Of a PERSON: 0 the WANT it is at, 1 how it is, 2 TEARS, 3 PURSE, 4 what it gave up (bits), 5 how many answers, 6 needs now,");
        hangs(0, 1, 1, 2);
        x.pain(1, 31);
        x.pain(2, 5);
        x.person(0, 0);
        x.person(0, 12);
        x.ask(1);
        x.give(1, 9);
        x.give(1, 11);
        int[] due = {1, 0, 51, 12, bits(9, 11), 1, 51 - 24};
        for (int what = 0; what < 7; what++) {
            due("of 1, " + what, x.of(1, what), due[what]);
            due("of 0, " + what, x.of(0, what), 0);
        }
        x.ask(1);
        x.ask(1);
        int[] then = {2, 1, 56, 22, bits(9, 11), 2, 56 - 44};
        for (int what = 0; what < 7; what++) {
            due("granted, " + what, x.of(1, what), then[what]);
        }
        says(17, "7 where it would go now, as if it waited (NONE: nowhere).");
        hangs(0, 4, 0, 9);
        x.person(0, 0);
        x.person(11, 0);
        due("the lowest", x.of(0, 7), 4);
        due("nowhere", x.of(1, 7), NONE);
        x.give(0, 4);
        due("not what it gave up", x.of(0, 7), 9);
        x.give(0, 9);
        due("nowhere then", x.of(0, 7), NONE);
        x.ask(0);
        x.hang(0, 3, true);
        due("as if it waited", x.of(0, 7), 3);
        x.ask(1);
        due("nowhere, as if it waited", x.of(1, 7), NONE);
        says(17, "NONE for others.");
        range("person", 0, 3, NONE, (t, v) -> t.of(v, 0));
        range("what", 0, 7, NONE, (t, v) -> t.of(3, v));
        due("nobody", x.of(0, 0), NONE);
    }

    private void ofWantAndTells() {
        says(18, "Of a WANT: 0 PAIN, 1 what it HANGS on (bits), 2 all BELOW it (bits), 3 DEPTH.");
        hangs(0, 11, 0, 3, 3, 7);
        x.pain(0, 44);
        int[] due = {44, bits(3, 11), bits(3, 7, 11), 2};
        int[] last = {10, 0, 0, 0};
        for (int what = 0; what < 4; what++) {
            due("of 0, " + what, x.ofWant(0, what), due[what]);
            due("of 11, " + what, x.ofWant(11, what), last[what]);
        }
        says(18, "NONE for others.");
        range("want", 0, 11, NONE, (t, v) -> t.ofWant(v, 0));
        range("what", 0, 3, NONE, (t, v) -> t.ofWant(3, v));
        range("want, below", 0, 11, NONE, (t, v) -> t.ofWant(v, 2));

        says(19, "tells now.");
        x.person(0, 0);
        due("by pain", x.tells(0, 5), 10);
        x.pain(5, 0);
        due("now", x.tells(0, 5), 0);
        rules("tells who * 100 + next - day;");
        x.person(3, 3);
        due("by the text", x.tells(1, 11), 111);
        x.day(1);
        due("by the day", x.tells(1, 11), 110);
        due("of one that is gone, too", x.of(1, 1) * 1000 + x.tells(1, 0), 2099);
        says(19, "-1000 for others.");
        range("person", 0, 3, -1000, (t, v) -> t.tells(v, 0));
        range("want", 0, 11, -1000, (t, v) -> t.tells(3, v));
        x.person(0, 0);
        rules("tells -9999;");
        due("the least that is told is more", x.tells(0, 0), -999);
    }

    private void isAndBook() {
        says(20, "0 DAY, 1 X, 2 those that wait (bits), 3 granted in all.");
        x.day(7);
        for (int p = 0; p < 5; p++) {
            x.person(0, 0);
        }
        due("day", x.is(0), 7);
        due("x", x.is(1), 251);
        due("all wait", x.is(2), 31);
        due("granted", x.is(3), 0);
        x.give(4, 1);
        x.ask(4);
        x.ask(0);
        due("three wait", x.is(2), bits(1, 2, 3));
        due("one granted", x.is(3), 1);
        says(20, "-2 for others.");
        range("what", 0, 3, OTHER, (t, v) -> t.is(v));

        says(21, "BOOK: how many (i NONE); the i-th, from the eldest on: 0 DAY, 1 PERSON, 2 the last WANT, 3 whether granted (1, 0).");
        due("none", x.book(NONE, 0), 0);
        x.person(0, 0);
        x.person(9, 9);
        x.day(1);
        due("both are gone", x.book(NONE, 0), 2);
        x.day(59);
        x.again(0, 5);
        x.give(0, 1);
        x.ask(0);
        int[][] due = {{0, 0, 0, 0}, {0, 1, 9, 0}, {60, 0, 5, 1}};
        for (int i = 0; i < 3; i++) {
            for (int what = 0; what < 4; what++) {
                due("entry " + i + ", " + what, x.book(i, what), due[i][what]);
            }
        }
        due("three", x.book(NONE, 3), 3);
        says(21, "-2 if there is none such, and for others.");
        due("empty", x.book(0, 0), OTHER);
        range("i", NONE, 1, OTHER, (t, v) -> t.book(v, 1));
        range("what", 0, 3, OTHER, (t, v) -> t.book(1, v));
    }

    private void coming() {
        says(22, "FORETOLD: 0 the WANT it is at, 1 how it is, 2 TEARS.");
        hangs(0, 1);
        x.person(0, 0);
        int[] one = {1, 0, 10};
        int[] two = {1, 1, 10};
        for (int what = 0; what < 3; what++) {
            due("behind a day, " + what, x.foretold(1, 0, what), one[what]);
            due("behind two, " + what, x.foretold(2, 0, what), two[what]);
        }
        x.day(2);
        due("one that is gone stays so", x.foretold(60, 0, 1), 1);
        says(22, "NONE for others.");
        range("n", 1, 60, NONE, (t, v) -> t.foretold(v, 0, 0));
        range("person", 0, 3, NONE, (t, v) -> t.foretold(1, v, 0));
        range("what", 0, 2, NONE, (t, v) -> t.foretold(1, 0, v));

        says(23, "THE BOTTOM.");
        hangs(0, 3, 3, 11);
        x.person(0, 0);
        due("the last", x.bottom(0), 11);
        x.give(0, 3);
        due("where it is", x.bottom(0), 0);
        says(23, "NONE for others (not waiting).");
        range("person", 0, 3, NONE, (t, v) -> t.bottom(v));
        x = town();
        due("granted", x.bottom(1), NONE);
        due("shown the door", x.bottom(2), NONE);
    }

    private void ways() {
        says(24, "WAYS.");
        hangs(0, 1, 0, 2, 1, 2);
        due("two", x.ways(0, 2), 2);
        due("none", x.ways(0, 3), 0);
        says(24, "NONE for others.");
        range("a", 0, 11, NONE, (t, v) -> t.ways(v, 11));
        range("b", 0, 11, NONE, (t, v) -> t.ways(0, v));

        says(25, "MUST (bits).");
        hangs(0, 1, 0, 2, 1, 2);
        due("the two", x.must(0, 2), bits(0, 2));
        x.hang(0, 2, false);
        due("all three", x.must(0, 2), bits(0, 1, 2));
        says(25, "NONE: there is no way, and for others.");
        range("a", 0, 11, NONE, (t, v) -> t.must(v, 11));
        range("b", 0, 11, NONE, (t, v) -> t.must(0, v));
        due("no way", x.must(0, 1), NONE);
        hangs(0, 1);
        due("up", x.must(1, 0), NONE);

        says(26, "BETWEEN (bits).");
        hangs(0, 1, 0, 2, 1, 2);
        due("all three", x.between(0, 2), 7);
        says(26, "NONE for others.");
        range("a", 0, 11, NONE, (t, v) -> t.between(v, 5));
        range("b", 0, 11, NONE, (t, v) -> t.between(5, v));

        says(27, "HEAVIEST.");
        hangs(0, 1, 0, 2, 1, 2);
        due("two", x.heaviest(0, 2), 20);
        says(27, "NONE: there is no way, and for others.");
        range("a", 0, 11, NONE, (t, v) -> t.heaviest(v, 11));
        range("b", 0, 11, NONE, (t, v) -> t.heaviest(0, v));
        due("no way", x.heaviest(0, 1), NONE);
        x.pain(1, 0);
        hangs(0, 1);
        due("a way without pain", x.heaviest(0, 1), 0);
        due("up", x.heaviest(1, 0), NONE);

        says(28, "UNDER (bits).");
        hangs(0, 1, 1, 2);
        due("both", x.under(0, 1), bits(1, 2));
        says(28, "NONE for others.");
        range("top", 0, 11, NONE, (t, v) -> t.under(v, 5));
        range("want", 0, 11, NONE, (t, v) -> t.under(5, v));
    }

    private void sets() {
        says(29, "NEEDLESS (bits).");
        hangs(0, 1, 0, 2, 1, 2);
        due("2", x.needless(0), bits(2));
        says(29, "NONE for others.");
        range("want", 0, 11, NONE, (t, v) -> t.needless(v));

        says(30, "SHARED (bits).");
        hangs(0, 2, 1, 2);
        due("2", x.shared(0, 1), bits(2));
        says(30, "NONE for others.");
        range("a", 0, 11, NONE, (t, v) -> t.shared(v, 5));
        range("b", 0, 11, NONE, (t, v) -> t.shared(5, v));

        says(31, "APART: WANTS (many false; bits), how many (many true).");
        hangs(0, 1, 0, 2);
        due("bits", x.apart(false), 4094);
        due("how many", x.apart(true), 11);

        says(32, "CHAINS.");
        hangs(0, 1, 0, 2);
        due("one less", x.chains(), 11);

        says(33, "LEVELS.");
        hangs(0, 1, 0, 2);
        due("two", x.levels(), 2);
    }

    private void askedAndCheap() {
        says(34, "ASKING: how many (first false), the first WANT asked about (first true).");
        hangs(3, 4, 3, 5);
        due("how many", x.asked(bits(4, 5, 6, 7), false), 2);
        due("the first", x.asked(bits(4, 5, 6, 7), true), 3);
        says(34, "NONE: none (first true), and for others.");
        due("one alone: none is asked", x.asked(bits(7), true), NONE);
        due("one alone: how many", x.asked(bits(7), false), 0);
        range("wants", 1, 4095, NONE, (t, v) -> t.asked(v, false));
        range("wants, first", 3, 4095, NONE, (t, v) -> t.asked(v, true));

        says(35, "GIVING UP: WANTS (pain false; bits), PAIN together (pain true).");
        hangs(0, 1, 1, 2, 2, 3);
        x.pain(1, 31);
        x.pain(2, 29);
        due("bits", x.cheap(0, 3, false), bits(2));
        due("pain", x.cheap(0, 3, true), 29);
        says(35, "NONE: no way, and for others.");
        range("top", 0, 11, NONE, (t, v) -> t.cheap(v, 7, true));
        range("want", 0, 11, NONE, (t, v) -> t.cheap(9, v, false));
        hangs(0, 1);
        due("it hangs on it", x.cheap(0, 1, false), NONE);
        due("it hangs on it: pain", x.cheap(0, 1, true), NONE);
        due("itself", x.cheap(5, 5, true), NONE);
    }

    private void offersAndRings() {
        says(36, "AN OFFER told: true.");
        due("told", x.offers(0, 4, true), true);
        due("the other way round", x.offers(4, 0, true), true);
        due("no more", x.offers(0, 4, false), true);
        due("no ring", x.rings(true), 0);
        says(36, "False for others (PERSONS 0 .. 4, unlike ones), and if it is so.");
        range("a", 0, 4, FALSE, (t, v) -> b(t.offers(v, 3, true)));
        range("b", 0, 4, FALSE, (t, v) -> b(t.offers(3, v, true)));
        range("a, no more", 0, 0, FALSE, (t, v) -> b(t.offers(v, 4, false)));
        for (int p = 0; p < 5; p++) {
            due("oneself", x.offers(p, p, true), false);
            due("oneself, no more", x.offers(p, p, false), false);
        }
        due("not so", x.offers(0, 1, false), false);
        x.offers(0, 1, true);
        due("so", x.offers(0, 1, true), false);

        says(37, "RINGS: PERSONS (many false; bits), how many (many true).");
        x.offers(1, 3, true);
        x.offers(3, 1, true);
        due("bits", x.rings(false), bits(1, 3));
        due("how many", x.rings(true), 2);
        due("none is there", x.about(0), 0);

        says(38, "Whose thing a PERSON gets by RINGS.");
        x.offers(0, 1, true);
        x.offers(1, 4, true);
        x.offers(4, 0, true);
        due("0 from 1", x.ring(0), 1);
        due("1 from 4", x.ring(1), 4);
        due("4 from 0", x.ring(4), 0);
        says(38, "NONE: nobody's, and for others.");
        range("person", 0, 4, NONE, (t, v) -> t.ring(v));
        due("nobody's", x.ring(0), NONE);
    }

    private void grants() {
        says(39, "A GRANT told: true.");
        x.person(0, 0);
        due("told", x.grant(0, 3, 7), true);
        due("it is", x.budget(6, false) * 100 + x.budget(6, true), 710);
        due("the same anew", x.grant(0, 3, 7), true);
        says(39, "False for others (PERSONS 0 .. 4, there or not).");
        range("person", 0, 4, FALSE, (t, v) -> b(t.grant(v, 5, 5)));
        range("odds", 0, 10, FALSE, (t, v) -> b(t.grant(0, v, 5)));
        range("cost", 0, 99, FALSE, (t, v) -> b(t.grant(0, 5, v)));
        due("one that isn't there", x.grant(0, 10, 50), true);
        x.person(0, 0);
        due("it counts when it comes", x.budget(49, false), 0);

        says(40, "BUDGET: the upper (low false), the lower one (low true).");
        x.person(0, 0);
        x.grant(0, 3, 7);
        due("upper", x.budget(6, false), 7);
        due("lower", x.budget(6, true), 10);
        says(40, "NONE for others.");
        range("cost", 0, 495, NONE, (t, v) -> t.budget(v, true));
        range("cost, the upper", 0, 495, NONE, (t, v) -> t.budget(v, false));

        says(41, "ENOUGH.");
        x.person(0, 0);
        due("half", x.enough(5), 0);
        due("more", x.enough(6), 10);
        says(41, "NONE for others (1 .. 10).");
        range("odds", 1, 10, NONE, (t, v) -> t.enough(v));
    }

    private void laws() {
        says(42, "SAID: how many there are (person NONE: none any more).");
        x.person(0, 0);
        for (int i = 1; i <= 8; i++) {
            due("so many", x.said(0, i), i);
        }
        due("none any more", x.said(NONE, 0), 0);
        due("none", x.about(4), 0);
        due("none of none", x.said(NONE, 0), 0);
        due("anew", x.said(0, 0), 1);
        says(42, "-2 for others, or if there are 8.");
        range("person", NONE, 3, OTHER, (t, v) -> t.said(v, 0));
        range("needs", -999, 999, OTHER, (t, v) -> t.said(0, v));
        due("nobody is there", x.said(0, 0), OTHER);
        x.person(0, 0);
        for (int i = 1; i <= 8; i++) {
            x.said(0, 7);
        }
        due("there are 8", x.said(0, 7), OTHER);
        due("8 yet", x.about(4), 8);

        says(43, "WHOSE LAW (bits).");
        x.person(0, 0);
        for (int i = 0; i < 4; i++) {
            reads("needs " + i % 2 + ";");
        }
        x.said(0, 1);
        due("the second, the fourth", x.whose(), 10);
        x.said(0, 0);
        due("none", x.whose(), 0);
    }

    private void small() {
        says(44, "SADDEST.");
        x.person(0, 0);
        x.person(0, 0);
        x.give(1, 3);
        due("the second", x.saddest(), 1);
        says(44, "NONE: none.");
        due("nobody", x.saddest(), NONE);
        x.person(0, 0);
        due("no tears", x.saddest(), NONE);

        says(45, "PLAIN WANTS (bits).");
        hangs(0, 11);
        due("all but 0", x.plain(), 4094);

        says(46, "LOOSE (bits).");
        hangs(0, 11);
        due("all but 11", x.loose(), 2047);

        says(47, "ABOVE (bits).");
        hangs(0, 3, 3, 11);
        due("both", x.above(11), bits(0, 3));
        says(47, "NONE for others.");
        range("want", 0, 11, NONE, (t, v) -> t.above(v));

        says(48, "BY THE BOOK: how many were granted (granted true), shown the side door.");
        x.person(0, 0);
        x.person(0, 0);
        x.person(0, 0);
        x.give(1, 3);
        x.ask(0);
        x.ask(1);
        x.ask(2);
        due("granted", x.ledger(true), 1);
        due("the door", x.ledger(false), 2);
    }

    private void image() {
        says(49, "THE IMAGE is as all is now: DAY.");
        due("day 0", x.image(), 0);
        x.day(5);
        due("day 5", x.image(), 5);
        x.pain(0, 3);
        due("back to the latest", x.back(), 5);
        due("as it was", x.ofWant(0, 0), 10);
        x.pain(0, 3);
        x.image();
        x.pain(0, 4);
        x.back();
        due("as it was then", x.ofWant(0, 0), 3);
        fresh();
        toDay(9999);
        due("the last day", x.image(), 9999);

        says(50, "BACK to THE IMAGE (it stays): DAY.");
        due("to the first", x.back(), 0);
        x.person(0, 0);
        x.give(0, 1);
        x.day(3);
        x.image();
        for (int i = 0; i < 3; i++) {
            x.day(60);
            x.person(3, 3);
            x.undo();
            due("day 3", x.back(), 3);
            due("one person", x.about(0), 1);
            due("four steps", x.about(3), 4);
        }
        x.undo();
        due("a step ahead of it can be taken back", x.is(0), 2);
        x.person(7, 7);
        x.back();
        due("the image hasn't changed", x.about(0), 1);
        for (int i = 3; i >= 0; i--) {
            due("its steps", x.undo(), i);
        }
        due("no more", x.undo(), NONE);
        due("day 0", x.is(0), 0);
        due("and its steps again", x.back() * 100 + x.about(3), 304);
        fullSteps();
    }

    /** Thirty steps in the image, and others since. */
    private void fullSteps() {
        fresh();
        x.day(33);
        x.image();
        x.day(7);
        x.back();
        due("thirty", x.about(3), 30);
        for (int i = 0; i < 30; i++) {
            x.undo();
        }
        due("the eldest of then", x.is(0), 3);
        x.day(60);
        x.back();
        x.undo();
        due("the latest of then", x.is(0), 32);
    }

    private void about() {
        says(51, "0 PERSONS, 1 TEXTS, 2 THE TEXT (NONE), 3 STEPS that can be taken back, 4 SAID, 5 bytes of the tape.");
        due("no text rules", x.about(2), NONE);
        x = town();
        int[] due = {4, 2, 0, 9, 2, 40};
        for (int what = 0; what < 6; what++) {
            due("about " + what, x.about(what), due[what]);
        }
        says(51, "-2 for others.");
        range("what", 0, 5, OTHER, (t, v) -> t.about(v));
    }
}
