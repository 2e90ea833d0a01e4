/** Part I: the terms, what is done, steps. */
final class TermSentences extends Sentences {
    private static final int T = Doc.TERMS;

    TermSentences(Doc doc, Check check) {
        super(doc, check);
    }

    @Override
    void all() {
        calls();
        townIsSo();
        wants();
        persons();
        book();
        askedWhere();
        askedLast();
        givenUp();
        comesAgain();
        days();
        steps();
        constant();
    }

    private void calls() {
        says(Doc.LIMIT, "An object is used for at most 512 calls after it has been made; what later calls answer is free.");
        for (int i = 0; i < 126; i++) {
            x.person(0, 0);
            x.day(60);
            x.undo();
            x.apart(false);
        }
        for (int i = 504; i < 511; i++) {
            x.pain(0, i % 97);
        }
        due("the 512th", x.ofWant(0, 0), 510 % 97);
    }

    /** What the tests by range rest on. */
    private void townIsSo() {
        says(T, "PERSONS 0 .. 4 (told one by one): at a WANT, how it is: 0 it waits (at first), 1 granted, 2 shown the side door;");
        x = town();
        int[] at = {2, 7, 8, 4};
        int[] how = {0, 1, 2, 0};
        for (int p = 0; p < 4; p++) {
            due("town: where", x.of(p, 0), at[p]);
            due("town: how", x.of(p, 1), how[p]);
        }
        due("town: persons", x.about(0), 4);
        due("town: texts", x.about(1), 2);
        due("town: steps", x.about(3), 9);
        due("town: said", x.about(4), 2);
        due("town: bytes", x.about(5), 40);
        due("town: fault", x.fault(0), 2);
        due("town: the first text by what was said", x.whose(), 1);
        due("town: one of like kind", seen(town()).equals(seen(town())), true);
        fresh();
        due("nobody at first", x.of(0, 0), NONE);
        for (int p = 0; p < 5; p++) {
            due("one by one", x.person(p + 2, p), p);
            due("there are", x.about(0), p + 1);
            due("its want", x.of(p, 0), p + 2);
            due("it waits", x.of(p, 1), 0);
        }
        due("a sixth", x.person(0, 0), NONE);
    }

    private void wants() {
        says(T, "WANTS 0 .. 11: PAIN 0 .. 99 (told; at first 10).");
        for (int w = 0; w < 12; w++) {
            due("at first", x.ofWant(w, 0), 10);
        }
        due("want -1", x.ofWant(-1, 0), NONE);
        due("want 12", x.ofWant(12, 0), NONE);
        due("99", b(x.pain(0, 99)) * 1000 + x.ofWant(0, 0), 1099);
        due("100", b(x.pain(0, 100)) * 1000 + x.ofWant(0, 0), 99);
        due("0", b(x.pain(0, 0)) * 1000 + x.ofWant(0, 0), 1000);
        due("-1", b(x.pain(0, -1)) * 1000 + x.ofWant(0, 0), 0);

        says(T, "A WANT can HANG on others of greater numbers (told; at first none does).");
        due("none at first", x.plain(), 4095);
        for (int a = 0; a < 12; a++) {
            for (int c = 0; c < 12; c++) {
                due(a + " on " + c, x.hang(a, c, true), c > a);
            }
        }
        for (int a = 0; a < 12; a++) {
            due("all greater ones", x.ofWant(a, 1), 4095 & -(2 << a));
        }

        says(T, "BELOW a WANT: those it HANGS on, those they HANG on, and so on.");
        for (int a = 0; a < 11; a++) {
            x.hang(a, a + 1, true);
        }
        due("a chain: all but itself", x.ofWant(0, 2), 4094);
        due("the last but one", x.ofWant(10, 2), bits(11));
        due("the last: nothing", x.ofWant(11, 2), 0);
        x.hang(5, 6, false);
        due("the chain is cut", x.ofWant(0, 2), bits(1, 2, 3, 4, 5));
        x.hang(5, 7, true);
        due("without 6", x.ofWant(0, 2), 4094 - bits(6));

        says(T, "DEPTH: the most hangings one behind the other from it on (0: it HANGS on none).");
        due("none", x.ofWant(0, 3), 0);
        hangs(0, 11);
        due("one", x.ofWant(0, 3), 1);
        hangs(0, 4, 4, 11, 2, 4);
        due("the longer way counts", x.ofWant(0, 3), 2);
        for (int a = 0; a < 11; a++) {
            x.hang(a, a + 1, true);
        }
        due("the most there can be", x.ofWant(0, 3), 11);
        due("the last", x.ofWant(11, 3), 0);
    }

    private void persons() {
        says(T, "TEARS 0 .. 999, answers 0 .. 999 (at first 0), PURSE 0 .. 99 (as told), what it gave up (bits; at first none).");
        x.person(3, 99);
        x.person(3, 0);
        due("tears", x.of(0, 2), 0);
        due("answers", x.of(0, 5), 0);
        due("purse", x.of(0, 3), 99);
        due("purse of none", x.of(1, 3), 0);
        due("gave up", x.of(0, 4), 0);
        for (int a = 0; a < 11; a++) {
            x.hang(a, a + 1, true);
        }
        x.person(0, 0);
        for (int i = 1; i <= 11; i++) {
            x.ask(2);
        }
        due("the most answers there can be", x.of(2, 5), 11);
        x.ask(2);
        due("going is no answer", x.of(2, 5), 11);

        says(T, "DAY 0 .. 9999, GRANTED 0 .. 9999 (at first 0).");
        due("day at first", x.is(0), 0);
        due("granted at first", x.is(3), 0);
        toDay(9999);
        due("the last day", x.is(0), 9999);
        due("no day behind it", x.day(1), NONE);
        due("the last day yet", x.is(0), 9999);
        x.person(0, 0);
        rules("needs 1;");
        for (int i = 0; i < 40; i++) {
            x.ask(0);
            x.again(0, 0);
        }
        due("granted in all, more than the book holds", x.is(3), 40);

        says(T, "X: at first 251.");
        due("x", x.is(1), 251);
        x.day(60);
        due("days without persons draw nothing", x.is(1), 251);
    }

    private void book() {
        says(T, "BOOK (the latest 30 that were granted or shown the door): DAY, PERSON, the last WANT, whether granted.");
        due("empty", x.book(NONE, 0), 0);
        due("empty: no eldest", x.book(0, 0), -2);
        x.person(0, 0);
        rules("needs 5 - want;");
        for (int i = 0; i < 30; i++) {
            due("so many", x.book(NONE, 0), i);
            x.ask(0);
            x.again(0, (i + 1) % 12);
        }
        due("full", x.book(NONE, 0), 30);
        due("the eldest", x.book(0, 2), 0);
        due("the latest", x.book(29, 2), 29 % 12);
        x.ask(0);
        due("one more: full yet", x.book(NONE, 0), 30);
        due("one more: the eldest is gone", x.book(0, 2), 1);
        due("one more: the latest", x.book(29, 2), 30 % 12);
        due("no thirty-first", x.book(30, 2), -2);
        due("granted below 5", x.book(3, 3), 1);
        due("the door from 5 on", x.book(4, 3), 0);
        fresh();
        for (int p = 0; p < 5; p++) {
            x.person(11 - p, 0);
        }
        toDay(9999);
        due("all were asked", x.is(2), 0);
        x.again(4, 6);
        x.give(4, 9);
        x.ask(4);
        due("the last day", x.book(5, 0), 9999);
        due("the last person", x.book(5, 1), 4);
        due("its last want", x.book(5, 2), 6);
        due("granted", x.book(5, 3), 1);
        for (int i = 0; i < 5; i++) {
            due("by the day in which it went", x.book(i, 0) < 60, true);
            due("its want", x.book(i, 2), 11 - x.book(i, 1));
            due("the door", x.book(i, 3), 0);
        }
    }

    private void askedWhere() {
        says(T, "ASKED: a PERSON that waits: of the WANTS its own one HANGS on that it didn't give up it goes to the one of which tells says most;");
        hangs(0, 2, 0, 5, 0, 9, 2, 11);
        x.pain(5, 40);
        x.pain(9, 39);
        x.pain(11, 99);
        x.person(0, 0);
        x.person(0, 0);
        x.person(0, 0);
        due("most pain", x.ask(0), 5);
        x.give(1, 5);
        due("5 was given up", x.ask(1), 9);
        x.give(2, 5);
        x.give(2, 9);
        due("2 is left", x.ask(2), 2);
        due("what its want hangs on", x.ask(2), 11);
        x.ask(0);
        due("it waits no more", x.ask(0), NONE);

        says(T, "of which tells says most; of like ones the lowest; TEARS");
        hangs(0, 3, 0, 7, 0, 11);
        x.person(0, 0);
        x.person(0, 0);
        due("all alike", x.of(0, 7), 3);
        x.pain(3, 9);
        due("two alike", x.of(0, 7), 7);
        rules("tells -9999;");
        due("all at the least that can be told", x.of(0, 7), 3);
        due("it goes there", x.ask(0), 3);
        rules("tells 1000 + next;");
        due("all at the most that can be told", x.ask(1), 3);

        says(T, "TEARS are more by its PAIN (999 at most), answers one more.");
        hangs(0, 1, 1, 2, 2, 3);
        for (int w = 1; w < 12; w++) {
            x.pain(w, 99);
        }
        x.person(0, 0);
        for (int w = 4; w < 12; w++) {
            x.give(0, w);
        }
        due("eight times 99", x.of(0, 2), 792);
        x.ask(0);
        due("nine times", x.of(0, 2), 891);
        x.pain(2, 98);
        x.ask(0);
        due("ten times, less one", x.of(0, 2), 989);
        due("two answers", x.of(0, 5), 2);
        x.pain(3, 10);
        x.ask(0);
        due("just 999", x.of(0, 2), 999);
        due("three answers", x.of(0, 5), 3);
        x.undo();
        x.pain(3, 11);
        x.ask(0);
        due("999 at most", x.of(0, 2), 999);
        x.undo();
        x.pain(3, 9);
        x.ask(0);
        due("998", x.of(0, 2), 998);
        x.undo();
        x.pain(3, 0);
        x.ask(0);
        due("no pain", x.of(0, 2), 989);
        due("an answer yet", x.of(0, 5), 3);
    }

    private void askedLast() {
        says(T, "Is there none: does needs say more than 0: granted (GRANTED is one more, PURSE 10 more, 99 at most); else the side door; written down.");
        x.person(3, 88);
        x.person(3, 89);
        x.person(3, 90);
        rules("needs who + 1;");
        for (int p = 0; p < 3; p++) {
            due("gone", x.ask(p), 12);
            due("granted", x.of(p, 1), 1);
            due("one more", x.is(3), p + 1);
            due("written down", x.book(NONE, 0), p + 1);
            due("as granted", x.book(p, 3), 1);
        }
        due("98", x.of(0, 3), 98);
        due("99", x.of(1, 3), 99);
        due("99 at most", x.of(2, 3), 99);
        x.again(1, 3);
        x.ask(1);
        due("from 99 on", x.of(1, 3), 99);
        x.person(3, 50);
        x.person(3, 50);
        rules("needs who - 3;");
        x.ask(3);
        due("0 is not more than 0", x.of(3, 1), 2);
        due("purse as it was", x.of(3, 3), 50);
        due("granted as before", x.is(3), 4);
        due("written down too", x.book(4, 3), 0);
        x.ask(4);
        due("1 is", x.of(4, 1), 1);
        x.again(4, 3);
        rules("needs 0 - 1;");
        x.ask(4);
        due("-1 is not", x.of(4, 1), 2);
        hangs(5, 6);
        x.again(4, 5);
        x.give(4, 6);
        due("all given up: none is left", x.ask(4), 12);
        due("its last want", x.book(7, 2), 5);
    }

    private void givenUp() {
        says(T, "GIVEN UP: by a PERSON that waits a WANT that isn't its own one and wasn't given up: it is then, TEARS are more by its PAIN.");
        x.person(4, 0);
        for (int w = 0; w < 12; w++) {
            x.pain(w, 99);
        }
        due("its own one", x.give(0, 4), false);
        int gave = 0;
        for (int w = 0; w < 12; w++) {
            if (w != 4) {
                due("another", x.give(0, w), true);
                gave |= 1 << w;
                due("it is then", x.of(0, 4), gave);
                due("tears", x.of(0, 2), Math.min(999, 99 * Integer.bitCount(gave)));
                due("a second time", x.give(0, w), false);
            }
        }
        due("its own one yet", x.give(0, 4), false);
        due("it stays there", x.of(0, 0), 4);
        due("no answer", x.of(0, 5), 0);
        x.ask(0);
        due("it waits no more", x.give(0, 4), false);
        x.person(4, 0);
        x.pain(7, 0);
        due("without pain", x.give(1, 7), true);
        due("no tears", x.of(1, 2), 0);
        due("it was given up all the same", x.give(1, 7), false);
        hangs(4, 5);
        x.give(1, 5);
        x.hang(5, 6, true);
        x.hang(4, 6, true);
        x.ask(1);
        due("once left, its first want can be given up", x.give(1, 4), true);
        due("the one it is at can't", x.give(1, 6), false);
    }

    private void comesAgain() {
        says(T, "COMES AGAIN: a PERSON that doesn't wait, with a WANT: it waits there, with no TEARS, no answers, nothing given up.");
        hangs(2, 3);
        x.person(2, 0);
        due("it waits", x.again(0, 5), false);
        x.give(0, 9);
        x.ask(0);
        due("it waits yet", x.again(0, 5), false);
        x.ask(0);
        due("granted", x.of(0, 1), 1);
        due("with the last want", x.again(0, 11), true);
        due("there", x.of(0, 0), 11);
        due("it waits there", x.of(0, 1), 0);
        due("no tears", x.of(0, 2), 0);
        due("purse stays", x.of(0, 3), 10);
        due("nothing given up", x.of(0, 4), 0);
        due("no answers", x.of(0, 5), 0);
        x.give(0, 9);
        due("what it gave up once can be again", x.of(0, 4), bits(9));
        x.ask(0);
        due("the door", x.of(0, 1), 2);
        due("with the first want", x.again(0, 0), true);
        due("there too", x.of(0, 0), 0);
        due("not twice", x.again(0, 0), false);
    }

    /** A new object's X is made to be a draw by its last digit, by years without persons. */
    private void lotWithDigit(int digit) {
        fresh();
        for (int seed = 0; seed < 10000; seed++) {
            if (anew(seed * 2 + 251) % 10 == digit) {
                x.years(seed, 1);
                return;
            }
        }
    }

    private void days() {
        says(T, "A DAY: PERSONS that wait by number: a draw by 10 (X mod 10, X being (X * 491 + 379) mod 30677 then): below 6 it is ASKED.");
        for (int digit = 0; digit < 10; digit++) {
            lotWithDigit(digit);
            int lot = x.is(1);
            x.person(0, 0);
            x.day(1);
            due("draw " + digit, x.of(0, 1), digit < 6 ? 2 : 0);
            due("x behind it", x.is(1), anew(lot));
        }
        fresh();
        int lot = 251;
        hangs(0, 1, 1, 2, 2, 3, 3, 4, 4, 5, 5, 6, 6, 7, 7, 8, 8, 9, 9, 10, 10, 11);
        for (int p = 0; p < 5; p++) {
            x.person(0, 0);
        }
        int[] at = new int[5];
        for (int day = 0; day < 11; day++) {
            x.day(1);
            for (int p = 0; p < 5; p++) {
                at[p] += lot % 10 < 6 ? 1 : 0;
                lot = anew(lot);
                due("by number, day " + day, x.of(p, 0), at[p]);
            }
            due("five draws", x.is(1), lot);
        }
        fresh();
        x.person(0, 0);
        x.person(0, 0);
        x.ask(0);
        x.day(1);
        due("who doesn't wait draws nothing", x.is(1), anew(251));
        due("the other one is asked", x.of(1, 1), 2);

        says(T, "DAY is one more (at 9999 none can pass).");
        x.day(1);
        due("one", x.is(0), 1);
        toDay(9998);
        due("the last can", x.day(1), 0);
        due("9999", x.is(0), 9999);
        x.person(0, 0);
        int before = x.is(1);
        int steps = x.about(3);
        due("none can, by hand", x.day(1), NONE);
        reads("day 1;");
        due("none can, by a text", x.played(0), 0);
        for (int seed = 0; seed < 40; seed++) {
            if ((seed * 2 + 251) % 6 >= 4) {
                due("none can, by years", x.years(seed, 1), 9999);
                due("nobody is asked by years", x.of(0, 1), 0);
                due("one x is drawn by years", x.is(1), anew(seed * 2 + 251));
                x.undo();
            }
        }
        due("none can be foretold", x.foretold(60, 0, 1), 0);
        due("nobody was asked", x.of(0, 1), 0);
        due("nothing was drawn", x.is(1), before);
        due("the years were the one step", x.about(3), Math.min(30, steps) - 1);
    }

    private void steps() {
        says(T, "STEPS: ASKED, GIVEN UP, COMES AGAIN, a DAY (each), YEARS (see V): the latest 30 can be taken back, the latest first");
        x.person(0, 0);
        x.pain(0, 0);
        x.hang(0, 1, true);
        reads("");
        x.by(0);
        x.offers(0, 1, true);
        x.grant(0, 1, 1);
        x.said(0, 0);
        x.image();
        due("what is told is none", x.about(3), 0);
        x.ask(0);
        due("asked", x.about(3), 1);
        x.give(0, 5);
        due("given up", x.about(3), 2);
        x.ask(0);
        x.again(0, 3);
        due("comes again", x.about(3), 4);
        x.day(5);
        due("a day each", x.about(3), 9);
        x.years(3, 40);
        due("years: one", x.about(3), 10);
        reads("day 3; person 0 purse 0; give 1 by 1; pain 3 of 3; ask 1;");
        x.played(1);
        due("played: as by hand", x.about(3), 15);
        x.day(14);
        due("29", x.about(3), 29);
        x.day(1);
        due("30", x.about(3), 30);
        x.day(1);
        due("30 at most", x.about(3), 30);
        fresh();
        x.person(0, 0);
        x.day(31);
        for (int i = 29; i >= 0; i--) {
            due("how many yet", x.undo(), i);
            due("the latest first", x.is(0), i + 1);
        }
        due("the 31st is gone", x.undo(), NONE);
        due("nothing more is taken back", x.is(0), 1);
        x.day(60);
        for (int i = 0; i < 30; i++) {
            x.undo();
        }
        due("of sixty at once the latest 30", x.is(0), 31);

        says(T, "(PERSONS, GRANTED, DAY, X, BOOK are as ahead of it;");
        hangs(3, 4);
        x.person(3, 92);
        rules("needs 1;");
        x.give(0, 9);
        x.ask(0);
        x.ask(0);
        x.again(0, 8);
        x.give(0, 1);
        x.undo();
        due("not given up", x.of(0, 4), 0);
        due("no tears", x.of(0, 2), 0);
        x.undo();
        due("gone again", x.of(0, 1), 1);
        due("its tears again", x.of(0, 2), 20);
        due("its answers again", x.of(0, 5), 1);
        due("what it gave up again", x.of(0, 4), bits(9));
        due("where it was", x.of(0, 0), 4);
        due("purse of one granted", x.of(0, 3), 99);
        x.undo();
        due("granted none", x.is(3), 0);
        due("the book is empty", x.book(NONE, 0), 0);
        due("it waits", x.of(0, 1), 0);
        due("purse", x.of(0, 3), 92);
        x.undo();
        due("where it was first", x.of(0, 0), 3);
        due("no answers", x.of(0, 5), 0);
        x.day(1);
        x.undo();
        due("day", x.is(0), 0);
        due("x", x.is(1), 251);
        x.years(5000, 40);
        x.undo();
        due("day, years", x.is(0), 0);
        due("x, years", x.is(1), 251);
        due("granted, years", x.is(3), 0);
        due("where it was, years", x.of(0, 0), 3);
        fullBookBack();

        says(T, "PERSONS told since are as told;");
        x.person(0, 0);
        x.day(1);
        for (int p = 1; p < 5; p++) {
            x.person(p, p + 20);
        }
        x.ask(4);
        x.undo();
        x.undo();
        due("all are there", x.about(0), 5);
        for (int p = 1; p < 5; p++) {
            due("its want", x.of(p, 0), p);
            due("it waits", x.of(p, 1), 0);
            due("its purse", x.of(p, 3), p + 20);
        }
        due("a sixth can't come", x.person(0, 0), NONE);
        due("who waited ahead waits", x.is(2), 31);

        says(T, "WANTS, what HANGS on what stay).");
        x.person(0, 0);
        x.hang(2, 3, true);
        x.ask(0);
        x.pain(7, 70);
        x.hang(0, 7, true);
        x.hang(2, 3, false);
        x.undo();
        due("pain", x.ofWant(7, 0), 70);
        due("a hanging", x.ofWant(0, 1), bits(7));
        due("one no more", x.ofWant(2, 1), 0);
        due("what was told stays: it is so", x.hang(0, 7, true), false);
        due("it goes there now", x.ask(0), 7);
    }

    private void fullBookBack() {
        fresh();
        x.person(0, 0);
        for (int i = 0; i < 30; i++) {
            x.ask(0);
            x.again(0, (i + 1) % 12);
        }
        x.ask(0);
        due("a full book: the eldest is gone", x.book(0, 2), 1);
        x.undo();
        due("a full book: the eldest is there again", x.book(0, 2), 0);
        due("a full book: full yet", x.book(NONE, 0), 30);
        x.undo();
        x.undo();
        due("29", x.book(NONE, 0), 29);
        due("the eldest yet", x.book(0, 2), 0);
    }

    private void constant() {
        says(T, "The constants: `NONE = -1`: None.");
        due("NONE", WantOfAWant.NONE, -1);
    }
}
