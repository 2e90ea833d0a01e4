/** Part III: what comes, ways down, sets of wants, asking. */
final class LookSentences extends Sentences {
    private static final int T = Doc.TERMS;

    LookSentences(Doc doc, Check check) {
        super(doc, check);
    }

    @Override
    void all() {
        changesNothing();
        coming();
        waysDown();
        throughWhat();
        under();
        needlessAndShared();
        apart();
        chainsAndLevels();
        asking();
    }

    /** 0 on 1, 2; 1 and 2 on 3; 3 on 4, 5; 4 and 5 on 6. */
    private void twoDiamonds() {
        fresh();
        hangs(0, 1, 0, 2, 1, 3, 2, 3, 3, 4, 3, 5, 4, 6, 5, 6);
    }

    private void all66() {
        fresh();
        for (int a = 0; a < 12; a++) {
            for (int c = a + 1; c < 12; c++) {
                x.hang(a, c, true);
            }
        }
    }

    private void chain() {
        fresh();
        for (int a = 0; a < 11; a++) {
            x.hang(a, a + 1, true);
        }
    }

    private void changesNothing() {
        says(T, "All that follows changes nothing.");
        WantOfAWant t = town();
        for (int v = 0; v < 4; v++) {
            t.foretold(60, v, 0);
            t.foretold(7, v, 2);
            t.bottom(v);
            t.ways(v, 11);
            t.must(v, 11);
            t.between(v, 11);
            t.heaviest(v, 11);
            t.under(v, 5);
            t.needless(v);
            t.shared(v, v + 1);
            t.above(v);
            t.ring(v);
            t.enough(v + 1);
            t.asked(4095 - v, true);
            t.cheap(v, 11, false);
        }
        t.apart(true);
        t.apart(false);
        t.chains();
        t.levels();
        t.asked(4095, false);
        t.cheap(0, 11, true);
        t.rings(true);
        t.rings(false);
        t.budget(30, true);
        t.whose();
        t.saddest();
        t.plain();
        t.loose();
        t.ledger(true);
        t.ledger(false);
        due("all is as it was", seen(t).equals(seen(town())), true);
    }

    private void coming() {
        says(T, "FORETOLD behind n DAYS (1 .. 60; those that can pass), nothing else being done: of a PERSON the WANT, how it is, TEARS.");
        WantOfAWant other = new WantOfAWant();
        for (WantOfAWant t : new WantOfAWant[] {x, other}) {
            for (int a = 0; a < 11; a++) {
                t.hang(a, a + 1, true);
                t.pain(a, a * 3);
            }
            t.person(0, 0);
            t.person(4, 90);
        }
        for (int n = 1; n <= 20; n++) {
            other.day(1);
            for (int p = 0; p < 2; p++) {
                for (int what = 0; what < 3; what++) {
                    due("behind " + n, x.foretold(n, p, what), other.of(p, what));
                }
            }
        }
        due("behind none", x.foretold(0, 0, 0), NONE);
        due("behind 61", x.foretold(61, 0, 0), NONE);
        other.day(40);
        due("behind 60", x.foretold(60, 1, 1), other.of(1, 1));
        due("the door", x.foretold(60, 1, 1), 2);
        due("granted", x.foretold(60, 0, 1), 1);
        due("its last want", x.foretold(60, 0, 0), 11);
        due("no day has passed", x.is(0), 0);
        fresh();
        chain();
        toDay(9998);
        x.person(0, 0);
        due("the one that can pass", x.foretold(60, 0, 0), 1);
        due("one and no more", x.foretold(1, 0, 0), 1);
        x.day(1);
        due("none can", x.foretold(60, 0, 0), 1);
        due("none can: tears", x.foretold(1, 0, 2), 10);
        byLaw();

        says(T, "THE BOTTOM of a PERSON that waits: the last WANT, were it ASKED again and again.");
        chain();
        x.person(0, 0);
        due("from the first to the last", x.bottom(0), 11);
        due("it is where it was", x.of(0, 0), 0);
        x.person(11, 0);
        due("it is there", x.bottom(1), 11);
        x.give(0, 5);
        due("ahead of what it gave up", x.bottom(0), 4);
        x.hang(4, 6, true);
        due("past it", x.bottom(0), 11);
        x.hang(2, 11, true);
        x.pain(11, 90);
        due("by tells", x.bottom(0), 11);
        rules("tells if answers < 1 then 0 else next end;");
        x.hang(1, 9, true);
        x.hang(9, 10, false);
        due("by what is so then", x.bottom(0), 9);
        x.ask(1);
        due("it waits no more", x.bottom(1), NONE);
        due("nobody is granted by it", x.is(3), 0);
    }

    /** A law that asks for the day: foretold takes the day of then. */
    private void byLaw() {
        fresh();
        hangs(0, 1, 0, 2);
        x.person(0, 0);
        rules("tells if day > 2 then next else -next end; needs day;");
        due("asked on day 0", x.foretold(1, 0, 0), 1);
        due("granted on day 1", x.foretold(2, 0, 1), 1);
        x.day(3);
        x.undo();
        x.undo();
        x.undo();
        due("day 0", x.is(0), 0);
        fresh();
        hangs(0, 1, 0, 2);
        toDay(3);
        x.person(0, 0);
        rules("tells if day > 2 then next else -next end; needs day;");
        due("asked on day 3", x.foretold(1, 0, 0), 2);
    }

    private void waysDown() {
        says(T, "WAYS down from a WANT to another one (to itself: 1), by unlike rows of WANTS.");
        due("to itself", x.ways(0, 0), 1);
        due("the last to itself", x.ways(11, 11), 1);
        due("none", x.ways(0, 11), 0);
        hangs(0, 11);
        due("one", x.ways(0, 11), 1);
        due("up: none", x.ways(11, 0), 0);
        due("to itself yet", x.ways(0, 0), 1);
        twoDiamonds();
        due("two", x.ways(0, 3), 2);
        due("four", x.ways(0, 6), 4);
        all66();
        due("the most", x.ways(0, 11), 1024);
        due("half of them", x.ways(1, 11), 512);
        due("next", x.ways(10, 11), 1);

        says(T, "HEAVIEST: the most PAIN of a way down together, that of the first WANT aside.");
        x.pain(0, 99);
        due("to itself", x.heaviest(0, 0), 0);
        due("none", x.heaviest(0, 1), NONE);
        twoDiamonds();
        x.pain(0, 99);
        x.pain(1, 11);
        x.pain(2, 12);
        due("the heavier one", x.heaviest(0, 3), 22);
        x.hang(0, 3, true);
        due("not the shorter one", x.heaviest(0, 3), 22);
        x.pain(1, 0);
        x.pain(2, 0);
        x.pain(3, 0);
        due("no pain at all", x.heaviest(0, 3), 0);
        due("up", x.heaviest(3, 0), NONE);
        chain();
        for (int w = 0; w < 12; w++) {
            x.pain(w, 99);
        }
        due("the most there can be", x.heaviest(0, 11), 11 * 99);
    }

    private void throughWhat() {
        says(T, "MUST: WANTS (bits) through which all these ways go, the two too.");
        due("itself", x.must(7, 7), bits(7));
        due("no way", x.must(0, 7), NONE);
        twoDiamonds();
        due("the two and the one between", x.must(0, 6), bits(0, 3, 6));
        due("the two alone", x.must(0, 3), bits(0, 3));
        due("up", x.must(6, 0), NONE);
        x.hang(0, 6, true);
        due("past all", x.must(0, 6), bits(0, 6));
        chain();
        due("all", x.must(0, 11), 4095);

        says(T, "BETWEEN two WANTS: WANTS (bits) through which any such way goes, the two too (none: 0).");
        due("itself", x.between(7, 7), bits(7));
        due("none", x.between(0, 7), 0);
        twoDiamonds();
        due("all between", x.between(0, 6), 127);
        due("a part", x.between(1, 5), bits(1, 3, 5));
        due("aside", x.between(1, 2), 0);
        due("up", x.between(6, 0), 0);
        hangs(0, 8, 9, 6);
        due("what leads nowhere, or comes from elsewhere, isn't", x.between(0, 6), 127);
        chain();
        due("all", x.between(0, 11), 4095);
    }

    private void under() {
        says(T, "UNDER a WANT, by a top one: WANTS (bits) BELOW the top one, to which all ways from that go through it (it too, if it is BELOW).");
        due("none is below", x.under(0, 0), 0);
        due("nor is it", x.under(0, 5), 0);
        twoDiamonds();
        due("it and what is under it", x.under(0, 3), bits(3, 4, 5, 6));
        due("it alone", x.under(0, 1), bits(1));
        due("the last", x.under(0, 6), bits(6));
        due("the top itself: all below", x.under(0, 0), bits(1, 2, 3, 4, 5, 6));
        due("one above the top", x.under(3, 0), 0);
        due("one aside", x.under(1, 2), 0);
        due("one that is nowhere", x.under(0, 9), 0);
        x.hang(0, 6, true);
        due("another way leads past it", x.under(0, 3), bits(3, 4, 5));
        chain();
        due("in a chain", x.under(0, 5), 4095 - 31);
        due("the last of a chain", x.under(0, 11), bits(11));
    }

    private void needlessAndShared() {
        says(T, "NEEDLESS hangings of a WANT: those WANTS (bits) it HANGS on that are BELOW another one it HANGS on.");
        due("it hangs on none", x.needless(0), 0);
        hangs(0, 11);
        due("one alone", x.needless(0), 0);
        hangs(0, 1, 1, 2, 2, 11);
        due("far below another one", x.needless(0), bits(11));
        x.hang(2, 11, false);
        due("no more", x.needless(0), 0);
        all66();
        due("all but the next", x.needless(0), 4095 - 3);
        due("the last but one", x.needless(10), 0);
        due("the last but two", x.needless(9), bits(11));
        due("the last", x.needless(11), 0);

        says(T, "SHARED by two WANTS: WANTS (bits) that are, or are BELOW, each of both, and BELOW no other such one.");
        due("itself with itself", x.shared(4, 4), bits(4));
        due("nothing", x.shared(4, 5), 0);
        twoDiamonds();
        due("one that is below both", x.shared(1, 2), bits(3));
        due("one is below the other", x.shared(1, 5), bits(5));
        due("told the other way", x.shared(5, 1), bits(5));
        due("the first of two behind one another", x.shared(4, 5), bits(6));
        hangs(1, 9, 2, 9, 9, 10);
        due("two", x.shared(1, 2), bits(3, 9));
        hangs(3, 9);
        due("one lies below the other then", x.shared(1, 2), bits(3));
        due("with all", x.shared(0, 6), bits(6));
        due("the first with itself", x.shared(0, 0), bits(0));
    }

    private void apart() {
        says(T, "APART: the most WANTS (bits) of which none is BELOW another one; of like ones the lowest set.");
        due("all", x.apart(true), 12);
        due("all, bits", x.apart(false), 4095);
        chain();
        due("one", x.apart(true), 1);
        due("the lowest", x.apart(false), 1);
        all66();
        due("one of all", x.apart(false), 1);
        fresh();
        hangs(0, 1);
        due("without 1", x.apart(false), 4095 - bits(1));
        fresh();
        hangs(10, 11);
        due("without 11", x.apart(false), 4095 - bits(11));
        fresh();
        hangs(0, 1, 1, 2);
        due("far below too", x.apart(true), 10);
        due("the lowest of three", x.apart(false), 4095 - bits(1, 2));
        // of 0 with 3 and 1 with 2, which are like in number, the latter is the lower number
        fresh();
        hangs(0, 1, 0, 2, 1, 3, 2, 3);
        due("1 and 2 lie apart", x.apart(false), 4095 - bits(0, 3));
        fresh();
        hangs(0, 2, 1, 3, 0, 1, 2, 3);
        due("1 and 2 lie apart, told otherwise", x.apart(false), 4095 - bits(0, 3));
        // the sets {0, 3} and {1, 2} are both of two: 0 hangs on 1 and 2; 3 lies apart from 0, and below 1 and 2 no more
        fresh();
        hangs(0, 1, 0, 2, 1, 4, 3, 4, 2, 5, 3, 5);
        for (int w = 6; w < 12; w++) {
            x.hang(4, w, true);
            x.hang(5, w, true);
        }
        due("six at the bottom", x.apart(false), 4095 & ~63);
        lowestSet();
    }

    /** Two sets of three and no more: 0 with 3, 4 and 1 with 2, 4 among them; the one without the higher number is lower. */
    private void lowestSet() {
        fresh();
        // a chain of all but for these pairs: 0 and 3 lie apart, 1 and 2 lie apart
        for (int a = 0; a < 12; a++) {
            for (int c = a + 1; c < 12; c++) {
                boolean lie = a == 1 && c == 2 || a == 0 && c == 3 || a == 1 && c == 3 || a == 2 && c == 3;
                if (!lie) {
                    x.hang(a, c, true);
                }
            }
        }
        // 1, 2, 3 lie apart, as 0 and 3 do
        due("three", x.apart(false), bits(1, 2, 3));
        fresh();
        for (int a = 0; a < 12; a++) {
            for (int c = a + 1; c < 12; c++) {
                boolean lie = a == 1 && c == 2 || a == 0 && c == 3;
                // what leads from 0 by 1 or 2 to 3 must not be
                boolean leads = c == 3 && a < 3;
                if (!lie && !leads) {
                    x.hang(a, c, true);
                }
            }
        }
        x.hang(1, 2, true);
        due("0 with 3, 1 with 3, 2 with 3: the lowest number", x.apart(false), bits(0, 3));
        fresh();
        hangs(0, 1, 0, 2);
        for (int a = 0; a < 4; a++) {
            for (int c = 4; c < 12; c++) {
                x.hang(a, c, true);
            }
        }
        for (int a = 4; a < 11; a++) {
            x.hang(a, a + 1, true);
        }
        due("1, 2 and 3 lie apart; 0 and 3 are fewer", x.apart(false), bits(1, 2, 3));
        x.hang(2, 3, true);
        due("1 with 2 is a lower number than 1 with 3", x.apart(false), bits(1, 2));
        fresh();
        // 0 above 2 alone, 1 above 3 alone, all four above a chain: 0 with 1, 0 with 3, 1 with 2, 2 with 3
        hangs(0, 2, 1, 3);
        for (int a = 0; a < 4; a++) {
            x.hang(a, 4, true);
        }
        for (int a = 4; a < 11; a++) {
            x.hang(a, a + 1, true);
        }
        due("the lowest of four sets", x.apart(false), bits(0, 1));
        x.hang(0, 1, true);
        due("0 with 3 is none then: 1 with 2", x.apart(false), bits(1, 2));
    }

    private void chainsAndLevels() {
        says(T, "CHAINS: the fewest rows of WANTS, each HANGING on the next, that hold each WANT just once.");
        due("each its own", x.chains(), 12);
        chain();
        due("one", x.chains(), 1);
        all66();
        due("one of all", x.chains(), 1);
        fresh();
        hangs(0, 5, 1, 5, 2, 5, 3, 5);
        due("5 stands in one of them", x.chains(), 11);
        fresh();
        hangs(5, 6, 5, 7, 5, 8);
        due("5 stands ahead of one of them", x.chains(), 11);
        fresh();
        hangs(0, 1, 1, 2, 3, 1, 1, 4);
        due("not through what stands in another row", x.chains(), 10);
        fresh();
        hangs(0, 5, 0, 6, 1, 5);
        due("0 must leave 5 to 1", x.chains(), 10);
        fresh();
        hangs(0, 8, 0, 9, 1, 8, 1, 10, 2, 9, 2, 8, 3, 10, 3, 8);
        due("by turns", x.chains(), 9);
        fresh();
        for (int a = 0; a < 6; a++) {
            for (int c = 6; c < 12; c++) {
                x.hang(a, c, a + c <= 11 || c == 11 - a + 1);
            }
        }
        due("six pairs", x.chains(), 6);
        fresh();
        for (int w = 0; w < 35; w++) {
            x.hang(w / 5, 7 + w % 5, true);
        }
        due("seven over five: two stay alone, and it is found in time", x.chains(), 7);
        // 0, 7, 9, 11 hang on none and end a row each: 0; 2, 7; 5, 9; 1, 3, 4, 6, 8, 10, 11
        fresh();
        hangs(6, 11, 10, 11, 8, 10, 4, 6, 5, 6, 1, 3, 1, 11, 5, 9, 2, 7, 6, 8, 1, 9, 1, 5, 8, 9, 3, 4, 2, 9, 2, 6, 5, 8);
        due("as few as end somewhere", x.chains(), 4);
        // 8 and 10 both need 2, and 0, 1, 3 begin a row too: 0; 1; 10; 2, 8, 9, 11; 3, 4, 5, 6, 7
        fresh();
        hangs(6, 7, 2, 8, 8, 11, 0, 7, 5, 6, 9, 11, 2, 10, 7, 11, 8, 9, 3, 4, 0, 4, 4, 5, 10, 11, 2, 6, 4, 11, 2, 4, 3, 6);
        due("two that need the same one", x.chains(), 5);
        // 4 needs 0, 8 needs 2, so 5 needs 4, 9 needs 5, and 6 is left without; 0, 1, 2 begin the other rows
        fresh();
        hangs(4, 11, 2, 8, 2, 5, 8, 11, 5, 6, 0, 4, 3, 7, 6, 7, 2, 3, 7, 10, 2, 11, 3, 11, 0, 9, 8, 10, 9, 11, 4, 5, 1, 3, 1, 7,
                2, 6, 5, 10, 5, 9);
        due("one more than begin somewhere", x.chains(), 4);

        says(T, "LEVELS: the most WANTS of one way down (one alone, too).");
        due("one alone", x.levels(), 1);
        hangs(10, 11);
        due("two", x.levels(), 2);
        hangs(0, 1, 0, 2, 1, 2);
        due("the longer way", x.levels(), 3);
        chain();
        due("all", x.levels(), 12);
    }

    private void asking() {
        says(T, "ASKING: which of some WANTS (bits, one at least) it is, one finds by asking, one behind the other, of any WANT 0 .. 11 whether it is that or is BELOW that:");
        due("none", x.asked(0, false), NONE);
        due("one", x.asked(1, false), 0);
        due("the last alone", x.asked(2048, false), 0);
        due("two", x.asked(bits(0, 11), false), 1);
        due("all", x.asked(4095, false), 11);
        due("more than there are", x.asked(4096, false), NONE);
        due("more than there are, with others", x.asked(4097, false), NONE);

        says(T, "how many must be asked at most, if one asks as well as can be;");
        chain();
        for (int n = 1; n <= 12; n++) {
            int halves = 0;
            while (1 << halves < n) {
                halves++;
            }
            due("a chain by halves, " + n, x.asked((1 << n) - 1, false), halves);
            due("the end of a chain, " + n, x.asked(4095 & ~((1 << 12 - n) - 1), false), halves);
        }
        chain();
        due("all of a chain at once", x.asked(4095, false), 4);
        due("its end then", x.asked(4095 & ~63, false), 3);
        due("its last five", x.asked(4095 & ~127, false), 3);
        due("its last four", x.asked(4095 & ~255, false), 2);
        fresh();
        for (int n = 1; n <= 12; n++) {
            due("one by one, " + n, x.asked((1 << n) - 1, false), n - 1);
        }
        // 0 over 2, 3, 4 and 1 over 5, 6, 7: one question for the half, then two for the third
        hangs(0, 2, 0, 3, 0, 4, 1, 5, 1, 6, 1, 7);
        due("six, by one that isn't among them", x.asked(bits(2, 3, 4, 5, 6, 7), false), 3);
        due("with the two", x.asked(255, false), 4);
        fresh();
        int four = bits(4, 5, 6, 7);
        due("four apart", x.asked(four, false), 3);
        hangs(0, 4, 0, 5);
        due("four, by the first want", x.asked(four, false), 2);
        x.hang(0, 5, false);
        due("it parts them less well", x.asked(four, false), 3);
        x.hang(0, 6, true);
        due("and well again", x.asked(four, false), 2);
        x.hang(0, 4, false);
        x.hang(0, 6, false);
        due("none hangs any more", x.asked(four, false), 3);
        hangs(5, 8);
        // about 5 first: then it is one of two, or one of six that lie apart
        due("a pair saves one question", x.asked(bits(1, 2, 5, 7, 8, 9, 10, 11), false), 6);

        says(T, "the first to ask about; of like ones the lowest (none for one alone).");
        due("one alone", x.asked(16, true), NONE);
        due("none", x.asked(0, true), NONE);
        due("more than there are", x.asked(4096, true), NONE);
        due("below", x.asked(-1, true), NONE);
        due("two, the lower", x.asked(bits(7, 9), true), 7);
        due("all, the lowest", x.asked(4095, true), 0);
        hangs(0, 7, 0, 9);
        due("it doesn't part them", x.asked(bits(7, 9), true), 7);
        hangs(1, 2, 2, 9);
        due("one that isn't among them, and is lower", x.asked(bits(7, 9), true), 1);
        chain();
        due("the middle of a chain: 4 or more of both, as low as can be", x.asked(255, true), 4);
        due("all twelve: eight at most on each side", x.asked(4095, true), 4);
        due("the last two", x.asked(bits(10, 11), true), 11);
    }
}
