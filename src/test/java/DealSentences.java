/** Parts IV and V: giving up, rings, budgets, whose law, small questions, years, the image. */
final class DealSentences extends Sentences {
    private static final int T = Doc.TERMS;

    DealSentences(Doc doc, Check check) {
        super(doc, check);
    }

    @Override
    void all() {
        givingUp();
        rings();
        whoseThing();
        budget();
        enough();
        whose();
        small();
        years();
        yearsFull();
        image();
    }

    private void givingUp() {
        says(T, "GIVING UP: WANTS (bits; neither of the two) with least PAIN together without which no way leads down from one to another one;");
        hangs(0, 1, 1, 2, 2, 3);
        x.pain(0, 0);
        x.pain(3, 0);
        x.pain(1, 30);
        x.pain(2, 31);
        due("neither of the two", x.cheap(0, 3, false), bits(1));
        due("pain", x.cheap(0, 3, true), 30);
        x.pain(1, 32);
        due("the other one", x.cheap(0, 3, false), bits(2));
        x.hang(0, 2, true);
        x.pain(1, 0);
        due("it must cut all ways", x.cheap(0, 3, false), bits(2));
        due("to itself: not another one", x.cheap(2, 2, false), NONE);
        due("to itself: pain", x.cheap(2, 2, true), NONE);
        fresh();
        for (int w = 1; w < 11; w++) {
            x.hang(0, w, true);
            x.hang(w, 11, true);
            x.pain(w, 99);
        }
        due("all ten", x.cheap(0, 11, false), 4094 - 2048);
        due("the most pain", x.cheap(0, 11, true), 990);

        says(T, "of like ones the fewest, then the lowest set; 0, if none leads; no way: the one HANGS on the other itself.");
        due("none leads", x.cheap(0, 11, false), 0);
        due("none leads: pain", x.cheap(0, 11, true), 0);
        due("up", x.cheap(11, 0, false), 0);
        hangs(0, 1, 0, 2, 1, 3, 2, 3, 3, 11);
        x.pain(3, 20);
        due("one rather than two", x.cheap(0, 11, false), bits(3));
        x.pain(3, 21);
        due("two with less pain", x.cheap(0, 11, false), bits(1, 2));
        for (int w = 0; w < 12; w++) {
            x.pain(w, 0);
        }
        due("without pain: the fewest", x.cheap(0, 11, false), bits(3));
        due("without pain: none needless", x.cheap(0, 3, false), bits(1, 2));
        fresh();
        hangs(0, 2, 2, 5, 5, 9, 9, 11);
        due("the lowest set", x.cheap(0, 11, false), bits(2));
        hangs(0, 3, 3, 6, 6, 11);
        due("the lowest set of two", x.cheap(0, 11, false), bits(2, 3));
        x.pain(2, 11);
        due("the lowest set of those of least pain", x.cheap(0, 11, false), bits(3, 5));
        hangs(0, 11);
        due("it hangs on it itself", x.cheap(0, 11, false), NONE);
        due("it hangs on it itself: pain", x.cheap(0, 11, true), NONE);
        due("the other way round none leads", x.cheap(11, 0, true), 0);
        // {1, 6} and {2, 4} and others: the lowest number is that without the highest want
        fresh();
        hangs(0, 1, 0, 2, 1, 4, 2, 6, 4, 11, 6, 11);
        x.pain(1, 10);
        x.pain(4, 10);
        x.pain(2, 12);
        x.pain(6, 11);
        due("6 rather than 2, 1 rather than 4", x.cheap(0, 11, false), bits(1, 6));
    }

    private void rings() {
        says(T, "RINGS: OFFERS (told: A would take what B has): sets of two or three PERSONS, each of whom would take what the next one has, round;");
        due("none", x.rings(true), 0);
        x.offers(0, 1, true);
        due("one way is none", x.rings(true), 0);
        x.offers(1, 0, true);
        due("two", x.rings(true), 2);
        x.offers(1, 0, false);
        x.offers(1, 4, true);
        due("two in a row are none", x.rings(true), 0);
        x.offers(4, 0, true);
        due("three", x.rings(true), 3);
        due("three, bits", x.rings(false), bits(0, 1, 4));
        fresh();
        for (int p = 0; p < 4; p++) {
            x.offers(p, (p + 1) % 4, true);
        }
        due("four round are none", x.rings(true), 0);
        fresh();
        for (int p = 0; p < 5; p++) {
            x.offers(p, (p + 1) % 5, true);
        }
        due("five round are none", x.rings(true), 0);
        x.offers(1, 0, true);
        due("a pair of them", x.rings(false), 3);

        says(T, "unlike RINGS have nobody in both: the most PERSONS in RINGS;");
        both(0, 1);
        both(1, 2);
        due("1 is in one alone", x.rings(true), 2);
        both(2, 3);
        due("two pairs", x.rings(true), 4);
        due("two pairs, bits", x.rings(false), 15);
        both(3, 4);
        due("four of five", x.rings(true), 4);
        x.offers(2, 4, true);
        x.offers(4, 3, true);
        due("a pair and three", x.rings(true), 5);
        fresh();
        both(0, 1);
        both(2, 3);
        x.offers(1, 2, true);
        x.offers(2, 0, true);
        due("two pairs rather than three", x.rings(true), 4);
        fresh();
        both(0, 1);
        x.offers(1, 2, true);
        x.offers(2, 0, true);
        due("three rather than a pair", x.rings(true), 3);
        x.offers(2, 0, false);
        due("a pair, when the three are no ring any more", x.rings(true), 2);
        fresh();
        both(0, 4);
        both(1, 2);
        due("the pair between", x.rings(false), bits(0, 1, 2, 4));
        x.offers(2, 3, true);
        x.offers(3, 1, true);
        due("the three between", x.rings(true), 5);
        fresh();
        x.offers(0, 3, true);
        x.offers(3, 4, true);
        x.offers(4, 0, true);
        both(1, 2);
        due("the pair between three", x.rings(true), 5);
        fresh();
        x.offers(0, 1, true);
        x.offers(1, 2, true);
        x.offers(2, 0, true);
        x.offers(1, 3, true);
        x.offers(3, 0, true);
        both(2, 4);
        due("the third that leaves a pair", x.rings(true), 5);
        due("round by 3", x.ring(1), 3);
    }

    private void both(int a, int c) {
        x.offers(a, c, true);
        x.offers(c, a, true);
    }

    private void whoseThing() {
        says(T, "of like ones each by number, from 0 on, gets from the lowest one it can, rather than from nobody: who is in RINGS, whose thing one gets.");
        both(0, 4);
        both(0, 3);
        due("0 from the lower", x.ring(0), 3);
        due("3 from 0", x.ring(3), 0);
        due("4 from nobody", x.ring(4), NONE);
        due("who is in rings", x.rings(false), bits(0, 3));
        fresh();
        both(3, 4);
        both(1, 2);
        both(2, 3);
        due("1 rather than nobody", x.rings(false), bits(1, 2, 3, 4));
        fresh();
        both(1, 2);
        both(2, 3);
        due("1 comes ahead of 3", x.rings(false), bits(1, 2));
        both(0, 3);
        x.offers(3, 0, false);
        due("0 can't", x.rings(false), bits(1, 2));
        fresh();
        both(0, 3);
        both(1, 2);
        x.offers(0, 1, true);
        x.offers(1, 4, true);
        x.offers(4, 0, true);
        due("four come ahead of the lowest one", x.ring(0), 3);
        fresh();
        both(0, 3);
        x.offers(1, 4, true);
        x.offers(4, 2, true);
        both(1, 2);
        due("all, with three of 1", x.rings(true), 5);
        due("1 from 4", x.ring(1), 4);
        x.offers(3, 4, true);
        x.offers(4, 0, true);
        due("all yet, with three of 0", x.rings(true), 5);
        due("1 from 2, the lower", x.ring(1), 2);
        due("3 from 4 for that", x.ring(3), 4);
        fresh();
        for (int a = 0; a < 5; a++) {
            for (int c = a + 1; c < 5; c++) {
                both(a, c);
            }
        }
        due("all of five", x.rings(true), 5);
        int[] from = {1, 0, 3, 4, 2};
        for (int p = 0; p < 5; p++) {
            due("whose, " + p, x.ring(p), from[p]);
        }
        x.offers(2, 3, false);
        int[] then = {1, 0, 4, 2, 3};
        for (int p = 0; p < 5; p++) {
            due("the other way round, " + p, x.ring(p), then[p]);
        }
        x.offers(2, 4, false);
        // 2 takes from 0 or 1 alone: 0 from 1, 1 from 2, 2 from 0, and 3, 4
        int[] last = {1, 2, 0, 4, 3};
        for (int p = 0; p < 5; p++) {
            due("most comes first, " + p, x.ring(p), last[p]);
        }
    }

    private void budget() {
        says(T, "BUDGET: GRANTS (told for PERSONS 0 .. 4: odds 0 .. 10 of 10, cost 0 .. 99; at first 5 and 10):");
        x.person(0, 0);
        due("at first: 5 of 10", x.budget(0, false) * 100 + x.budget(0, true), 102);
        due("at first: not at 9", x.budget(9, false) * 100 + x.budget(9, true), 102);
        due("at first: cost 10", x.budget(10, false) * 100 + x.budget(10, true), 101);
        x.grant(0, 0, 99);
        due("never", x.budget(0, false) * 100 + x.budget(0, true), 101);
        x.grant(0, 10, 99);
        due("always: not at 98", x.budget(98, false) * 100 + x.budget(98, true), 1);
        due("always: at 99", x.budget(99, false) * 100 + x.budget(99, true), 101);
        x.grant(0, 10, 0);
        due("always, for nothing", x.budget(0, false), 1);
        x.grant(0, 1, 1);
        due("9 of 10", x.budget(0, false) * 100 + x.budget(0, true), 910);
        for (int p = 0; p < 5; p++) {
            due("each", x.grant(p, 10, 99), true);
        }
        due("no sixth", x.grant(5, 10, 99), false);

        says(T, "each PERSON there is, is granted by its odds: how likely the costs of those granted are so much (0 .. 495) or less together, in lowest terms.");
        due("nobody", x.budget(0, false) * 100 + x.budget(0, true), 101);
        x.grant(0, 10, 99);
        due("nobody yet: who isn't there costs nothing", x.budget(0, false), 1);
        for (int p = 0; p < 5; p++) {
            x.grant(p, 10, 99);
            x.person(0, 0);
        }
        due("all at most", x.budget(495, false) * 10 + x.budget(495, true), 11);
        due("all, one less", x.budget(494, false) * 10 + x.budget(494, true), 1);
        due("more than can be", x.budget(496, false), NONE);
        due("below 0", x.budget(-1, true), NONE);
        for (int p = 0; p < 5; p++) {
            x.grant(p, 3, 10 + p);
        }
        due("none of five: 7 to the fifth", x.budget(9, false), 16807);
        due("none of five: of 10 to the fifth", x.budget(9, true), 100000);
        // and the first alone: 3 * 2401 more
        due("the first alone too, by ten", x.budget(10, false), (16807 + 3 * 2401) / 10);
        due("in lowest terms: the lower one", x.budget(10, true), 10000);
        for (int p = 0; p < 5; p++) {
            x.grant(p, 5, 10);
        }
        due("in lowest terms", x.budget(0, false) * 100 + x.budget(0, true), 132);
        due("one or none", x.budget(10, false) * 100 + x.budget(19, true), 316);
        due("two or less: half", x.budget(20, false) * 100 + x.budget(20, true), 102);
        x.ask(0);
        due("whether one waits is alike", x.budget(20, false) * 100 + x.budget(20, true), 102);
    }

    private void enough() {
        says(T, "ENOUGH: the least cost that is so with odds (1 .. 10 of 10) or more.");
        due("nobody", x.enough(10), 0);
        due("odds 0", x.enough(0), NONE);
        due("odds 11", x.enough(11), NONE);
        x.person(0, 0);
        x.grant(0, 4, 50);
        due("6 of 10 for nothing", x.enough(6), 0);
        due("7 of 10", x.enough(7), 50);
        due("1 of 10", x.enough(1), 0);
        due("10 of 10", x.enough(10), 50);
        x.grant(0, 10, 99);
        due("1 of 10, always", x.enough(1), 99);
        x.grant(0, 0, 99);
        due("10 of 10, never", x.enough(10), 0);
        for (int p = 1; p < 5; p++) {
            x.person(0, 0);
        }
        for (int p = 0; p < 5; p++) {
            x.grant(p, 10, 99);
        }
        due("the most", x.enough(1), 495);
        x.grant(4, 0, 99);
        due("who is never granted", x.enough(10), 396);
        // 90 of 100, 99 of 100
        x.grant(0, 1, 30);
        x.grant(1, 1, 20);
        x.grant(2, 0, 0);
        x.grant(3, 0, 0);
        due("81 of 100", x.enough(8), 0);
        due("90 of 100", x.enough(9), 20);
        due("all of 100", x.enough(10), 50);
    }

    private void whose() {
        says(T, "WHOSE LAW (told: SAID, 8 at most: a PERSON, needs -999 .. 999): TEXTS (bits) by whose needs all are so (as now).");
        due("no texts", x.whose(), 0);
        x.person(3, 2);
        x.person(4, 1);
        reads("needs want;");
        reads("needs 2 * want - 3;");
        reads("day 1;");
        reads("needs 9999 - 20000 * who;".replace("20000", "9999 * 3"));
        due("nothing said: all", x.whose(), 15);
        due("said", x.said(0, 3), 1);
        due("two texts", x.whose(), 3);
        due("said of another", x.said(1, 4), 2);
        due("one text", x.whose(), 1);
        x.said(NONE, 0);
        due("all again", x.whose(), 15);
        x.said(0, -4);
        due("without needs: tears less twice purse", x.whose(), 4);
        x.give(0, 9);
        due("as now", x.whose(), 0);
        x.undo();
        due("as now again", x.whose(), 4);
        x.said(NONE, 0);
        due("999", x.said(0, 999), 1);
        due("-999", x.said(1, -999), 2);
        due("as they are cut", x.whose(), 8);
        due("1000", x.said(0, 1000), -2);
        due("-1000", x.said(0, -1000), -2);
        for (int i = 3; i <= 8; i++) {
            due("so many", x.said(0, 999), i);
        }
        due("the ninth", x.said(0, 999), -2);
        due("eight", x.about(4), 8);
        due("all eight are so", x.whose(), 8);
        x.said(NONE, 0);
        for (int i = 1; i <= 7; i++) {
            x.said(0, 3);
        }
        due("seven are so", x.whose(), 3);
        x.said(0, 4);
        due("the eighth counts", x.whose(), 0);
    }

    private void small() {
        says(T, "SADDEST: the PERSON of most TEARS (above 0); of like ones the lowest; none.");
        due("nobody", x.saddest(), NONE);
        for (int p = 0; p < 5; p++) {
            x.person(0, 0);
        }
        due("nobody weeps", x.saddest(), NONE);
        x.pain(5, 0);
        x.give(2, 5);
        due("nobody weeps yet", x.saddest(), NONE);
        x.pain(5, 1);
        x.give(4, 5);
        due("one tear", x.saddest(), 4);
        x.give(3, 5);
        due("of like ones the lowest", x.saddest(), 3);
        x.give(4, 6);
        due("the most", x.saddest(), 4);
        x.ask(4);
        due("one that doesn't wait", x.saddest(), 4);
        x.again(4, 0);
        due("it comes again without", x.saddest(), 3);
        x.give(0, 5);
        due("the first, of like ones", x.saddest(), 0);

        says(T, "PLAIN WANTS: WANTS (bits) that HANG on none.");
        due("all", x.plain(), 4095);
        hangs(0, 11);
        due("all but 0", x.plain(), 4094);
        for (int a = 1; a < 11; a++) {
            x.hang(a, a + 1, true);
        }
        due("the last", x.plain(), 2048);

        says(T, "LOOSE: WANTS (bits) on which no other one HANGS.");
        due("all", x.loose(), 4095);
        hangs(0, 11);
        due("all but 11", x.loose(), 2047);
        for (int a = 0; a < 11; a++) {
            x.hang(a, a + 1, true);
        }
        due("the first", x.loose(), 1);

        says(T, "ABOVE a WANT: WANTS (bits) it is BELOW.");
        due("none", x.above(11), 0);
        for (int a = 0; a < 11; a++) {
            x.hang(a, a + 1, true);
        }
        due("all but itself", x.above(11), 2047);
        due("the first", x.above(0), 0);
        due("the second", x.above(1), 1);

        says(T, "BY THE BOOK: how many were granted, shown the door.");
        due("none granted", x.ledger(true), 0);
        due("none shown the door", x.ledger(false), 0);
        x.person(0, 0);
        rules("needs want - 5;");
        for (int i = 0; i < 36; i++) {
            x.ask(0);
            if (i == 29) {
                due("granted, of thirty", x.ledger(true), 6 * 2 + 0);
                due("the door, of thirty", x.ledger(false), 6 * 2 + 6);
            }
            x.again(0, (i + 1) % 12);
        }
        due("granted, of the latest thirty", x.ledger(true), 18);
        due("the door, of the latest thirty", x.ledger(false), 12);
        due("granted in all", x.is(3), 18);
    }

    private void years() {
        says(T, "YEARS by a SEED: X is SEED (0 .. 9999) * 2 + 251; n times (1 .. 40): x is X, X anew (as in a draw),");
        for (int seed : new int[] {0, 1, 2, 4999, 9998, 9999}) {
            fresh();
            x.years(seed, 1);
            due("x, seed " + seed, x.is(1), anew(seed * 2 + 251));
        }
        fresh();
        int lot = 9999 * 2 + 251;
        int days = 0;
        for (int i = 0; i < 40; i++) {
            days += lot % 6 >= 4 ? 1 : 0;
            lot = anew(lot);
        }
        due("forty times", x.years(9999, 40), days);
        due("x then", x.is(1), lot);
        due("41 times", x.years(0, 41), NONE);
        due("no times", x.years(0, 0), NONE);
        due("seed 10000", x.years(10000, 1), NONE);
        due("seed -1", x.years(-1, 1), NONE);
        due("nothing is done then", x.is(1), lot);

        says(T, "of the PERSON x mod how many there are:");
        for (int many = 1; many <= 5; many++) {
            for (int seed = 0; seed < 12; seed++) {
                int drawn = seed * 2 + 251;
                if (drawn % 6 <= 1) {
                    fresh();
                    for (int p = 0; p < many; p++) {
                        x.person(p, 0);
                    }
                    x.years(seed, 1);
                    due("of " + many + " by " + drawn, x.is(2), (1 << many) - 1 - (1 << drawn % many));
                }
            }
        }

        says(T, "x mod 6: 0, 1 it is ASKED; 2 it GIVES UP WANT x / 6 mod 12; 3 it COMES AGAIN with WANT x / 6 mod 12 (each if it can be); 4, 5 a DAY (if it can pass).");
        for (int kind = 0; kind < 6; kind++) {
            second(kind, false);
            second(kind, true);
        }
        dayCanNotPass();

        says(T, "Without PERSONS all but DAYS are nothing.");
        for (int seed = 0; seed < 40; seed++) {
            int before = x.is(0);
            int first = (seed * 2 + 251) % 6;
            due("a day alone counts", x.years(seed, 1), before + (first >= 4 ? 1 : 0));
            due("x goes on", x.is(1), anew(seed * 2 + 251));
        }
        due("nobody is there", x.about(0), 0);
        due("nothing in the book", x.book(NONE, 0), 0);

        says(T, "It is one STEP: DAY.");
        x.person(0, 0);
        int day = x.years(77, 40);
        due("its answer is the day", x.is(0), day);
        due("many days have passed", day > 1, true);
        due("one step", x.about(3), 1);
        due("taken back at once", x.undo(), 0);
        due("day 0", x.is(0), 0);
        due("x", x.is(1), 251);
    }

    /** A seed whose first draw does nothing to one person, and whose second is of a kind; with one that waits, or doesn't. */
    private void second(int kind, boolean gone) {
        int found = 0;
        for (int seed = 0; seed < 10000 && found < 3; seed++) {
            int first = seed * 2 + 251;
            int drawn = anew(first);
            int want = drawn / 6 % 12;
            // of one that waits coming again can't be; of one that is gone asking can't
            boolean still = gone ? first % 6 <= 1 : first % 6 == 3;
            if (still && drawn % 6 == kind && want != 4) {
                found++;
                fresh();
                hangs(4, 5);
                x.person(4, 3);
                if (gone) {
                    x.give(0, 5);
                    x.ask(0);
                    second(kind, seed, want, new int[] {4, 1, 10, 13, 32});
                } else {
                    second(kind, seed, want, new int[] {4, 0, 0, 3, 0});
                }
            }
        }
        due("seeds of kind " + kind, found, 3);
    }

    private void second(int kind, int seed, int want, int[] was) {
        boolean waits = was[1] == 0;
        int lot = anew(anew(seed * 2 + 251));
        boolean asked = waits && (kind <= 1 || kind >= 4 && lot % 10 < 6);
        int[] due = was.clone();
        if (asked) {
            due = new int[] {5, 0, 10, 3, 0};
        } else if (waits && kind == 2) {
            due = new int[] {4, 0, 10, 3, 1 << want};
        } else if (!waits && kind == 3) {
            due = new int[] {want, 0, 0, 13, 0};
        }
        due("day, kind " + kind, x.years(seed, 2), kind >= 4 ? 1 : 0);
        for (int what = 0; what < 5; what++) {
            due("kind " + kind + (waits ? ", it waits, " : ", it is gone, ") + what, x.of(0, what), due[what]);
        }
        due("x, kind " + kind, x.is(1), kind >= 4 && waits ? anew(lot) : lot);
    }

    private void dayCanNotPass() {
        fresh();
        toDay(9999);
        x.person(0, 0);
        for (int seed = 0; seed < 60; seed++) {
            int drawn = seed * 2 + 251;
            if (drawn % 6 == 5) {
                due("day 9999", x.years(seed, 1), 9999);
                due("nobody is asked", x.of(0, 1), 0);
                due("nobody draws", x.is(1), anew(drawn));
            }
        }
    }

    /** What can't be in years is passed over, and the rest is done. */
    private void yearsFull() {
        says(T, "(each if it can be)");
        x.person(4, 0);
        for (int seed = 0; seed < 10000; seed++) {
            int first = seed * 2 + 251;
            int drawn = anew(first);
            if (first % 6 == 3 && drawn % 6 == 2 && drawn / 6 % 12 == 4) {
                due("its own want", x.years(seed, 2), 0);
                due("isn't given up", x.of(0, 4), 0);
                due("no tears", x.of(0, 2), 0);
                break;
            }
        }
        for (int w = 0; w < 12; w++) {
            x.give(0, w);
        }
        int tears = x.of(0, 2);
        for (int seed = 0; seed < 10000; seed++) {
            int first = seed * 2 + 251;
            if (first % 6 == 3 && anew(first) % 6 == 2) {
                due("given up already", x.years(seed, 2), 0);
                due("no more tears", x.of(0, 2), tears);
                break;
            }
        }
    }

    private void image() {
        says(T, "AN IMAGE: all as it is, but the tape and the latest FAULT.");
        reads("ask 7");
        Check.load(x, "tells next;         needs 5;");
        x.image();
        due("the tape is there", x.about(5), 28);
        x.end(11);
        x.back();
        due("the tape stays as it is now", x.about(5), 11);
        due("the fault stays", x.fault(0), 2);
        due("its place too", x.fault(1), 4);
        x.text();
        x.back();
        due("the latest fault is none", x.fault(0), 0);
        due("the tape is empty", x.about(5), 0);
        due("the text is gone", x.about(1), 0);
        due("what was the image's tape isn't brought again", x.text(), 0);

        says(T, "BACK: all is so again.");
        WantOfAWant t = town();
        t.image();
        t.pain(0, 99);
        t.hang(0, 11, true);
        t.hang(0, 1, false);
        t.person(1, 1);
        t.by(1);
        t.ask(0);
        t.give(3, 2);
        t.again(1, 3);
        t.day(60);
        t.years(5, 40);
        t.undo();
        t.undo();
        Check.read(t, "needs 8;");
        t.said(NONE, 0);
        t.said(1, 1);
        t.said(2, 2);
        t.said(3, 3);
        t.offers(0, 4, false);
        t.offers(2, 1, true);
        t.grant(0, 0, 0);
        t.grant(4, 1, 9);
        Check.read(t, "ask 9");
        Check.load(t, "needs 1;                                ");
        t.back();
        WantOfAWant like = town();
        like.image();
        // a text was read since, and had a fault that is like the town's
        due("all", seen(t).equals(seen(like)), true);
        fresh();
        hangs(0, 1, 1, 2);
        x.person(0, 0);
        rules("tells depth; needs below want;");
        x.image();
        due("ahead: parted by one question", x.asked(bits(2, 3), true), 0);
        hangs(2, 3, 3, 4, 0, 11);
        due("since: below", x.of(0, 6), 5);
        due("since: asking", x.asked(bits(2, 3), true), 3);
        x.back();
        due("what is below", x.ofWant(0, 2), bits(1, 2));
        due("depth", x.ofWant(0, 3), 2);
        due("how many are below", x.of(0, 6), 2);
        due("depth in a law", x.tells(0, 1), 1);
        due("ways", x.ways(0, 4), 0);
        due("levels", x.levels(), 3);
        due("asking", x.asked(bits(2, 3), true), 0);
    }
}
